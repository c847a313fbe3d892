theorem inI_N {v a b : Nat} (hv : v < 2 ^ 31) (ha : a < 2 ^ 31) (hb : b < 2 ^ 31) : inI (nI v) (nI a) (nI b) = (decide (a ≤ v) && decide (v ≤ b)) := by
  unfold inI
  have e1 : decide (nI v < nI a) = decide (v < a) := decide_eq_decide.mpr (nI_ltI hv ha)
  have e2 : decide (nI b < nI v) = decide (b < v) := decide_eq_decide.mpr (nI_ltI hb hv)
  rw [e1, e2]
  by_cases c1 : a ≤ v
  · rw [decide_eq_true c1, decide_eq_false (p := v < a) (by omega)]
    by_cases c2 : v ≤ b
    · rw [decide_eq_true c2, decide_eq_false (p := b < v) (by omega)]; rfl
    · rw [decide_eq_false c2, decide_eq_true (p := b < v) (by omega)]; rfl
  · rw [decide_eq_false c1, decide_eq_true (p := v < a) (by omega)]; rfl
theorem inI_yes {j k : Nat} (hj : j ≤ k) (hk : k < 2 ^ 31) : inI (nI j) (nI 0) (nI k) = true := by
  rw [inI_N (by omega) (by omega) hk, decide_eq_true (Nat.zero_le _), decide_eq_true hj]; rfl
theorem inI_no {x : Int32} {k : Nat} (h : noN x (k + 1)) (hk : k < 2 ^ 31) : inI x (nI 0) (nI k) = false := by
  rcases h with h | ⟨j, rfl, h1, h2⟩
  · unfold inI
    rw [decide_eq_true (p := x < nI 0) h]; rfl
  · rw [inI_N h2 (by omega) hk, decide_eq_false (p := j ≤ k) (by omega), Bool.and_false]
theorem r_m_and (z : Rl) (p : Nat) : r_m z p = (((r_mf z 0 (pv p 0) && r_mf z 1 (pv p 1)) && r_mf z 2 (pv p 2)) && r_mf z 3 (pv p 3)) := by
  show ((((true && _) && _) && _) && _) = _
  rw [Bool.true_and]
section MODEL2
variable {l : Launch} {E : gE} {N : Nat} {M : gM} {W tn : Nat} {th sz lk rc pl fa : Int32} {ts : Nat → Nat} {mm : Nat → Nat} {rr : Nat → Nat → Rl} {gn : Nat} {gs : Nat → Nat}
theorem k_Mo_matches (h : M W = some (.inr (10, mo W th sz lk rc pl fa))) (hL : o_ml E M W mm rr) (j i a b c d : Nat) (hj : j < 2) (hi : i < mm j) (ha : a ≤ 255) (hb : b ≤ 255) (hc : c ≤ 1023) (hd : d ≤ 3) : Ctr l E y_Mo_matches 1 [.ref W, .int (nI (8 * j + i)), .int (nI a), .int (nI b), .int (nI c), .int (nI d)] N M 0 0 (g_val (some (.int (bI (r_m (rr j i) (pkt a b c d))))) N M) := by
  obtain ⟨h1, -, ⟨fl, h2, h3⟩, ⟨fh, h4, h5⟩, -⟩ := hL
  obtain ⟨hm, hok⟩ := h1 j hj
  have ho := hok i hi
  have hi8 : i < 8 := by omega
  have q := fun f (hf : f < 4) => ho.2 f hf
  have m0 := q 0 (by omega)
  have m1 := q 1 (by omega)
  have m2 := q 2 (by omega)
  have m3 := q 3 (by omega)
  have t0 := mst_lt 0
  have t1 := mst_lt 1
  have t2 := mst_lt 2
  have t3 := mst_lt 3
  have e := r_m_and (rr j i) (pkt a b c d)
  rw [pv_0 ha hb hc hd, pv_1 ha hb hc hd, pv_2 ha hb hc hd, pv_3 ha hb hc hd] at e
  have e0 : inI (nI a) (nI ((rr j i).2.1 0)) (nI ((rr j i).2.2 0)) = r_mf (rr j i) 0 a := inI_N (by omega) (by omega) (by omega)
  have e1 : inI (nI b) (nI ((rr j i).2.1 1)) (nI ((rr j i).2.2 1)) = r_mf (rr j i) 1 b := inI_N (by omega) (by omega) (by omega)
  have e2 : inI (nI c) (nI ((rr j i).2.1 2)) (nI ((rr j i).2.2 2)) = r_mf (rr j i) 2 c := inI_N (by omega) (by omega) (by omega)
  have e3 : inI (nI d) (nI ((rr j i).2.1 3)) (nI ((rr j i).2.2 3)) = r_mf (rr j i) 3 d := inI_N (by omega) (by omega) (by omega)
  generalize r_m (rr j i) (pkt a b c d) = R at e ⊢
  refine ctr_of [some (.ref W), some (.int (nI (8 * j + i))), some (.int (nI a)), some (.int (nI b)), some (.int (nI c)), some (.int (nI d)), none] (by decide) w_1076 rfl rfl (Nat.le_of_ble_eq_true rfl) (fun Γ => ?_)
  refine g_iload_n d_Mo_matches_0 rfl ?_
  refine g_aload_n d_Mo_matches_1 rfl ?_
  refine g_get f_Mo_16 (by assumption) rfl d_Mo_matches_2 ?_
  refine g_iconst (v := nI 4) d_Mo_matches_5 (by decide) ?_
  refine g_iload_n d_Mo_matches_6 rfl ?_
  refine g_imul d_Mo_matches_7 ?_
  refine g_eqi (pk_mul _ _) ?_
  refine g_iald _ (by assumption) rfl (by omega) (by decide) d_Mo_matches_8 ?_
  refine g_eqi (h3 j i 0 hj hi (by omega)) ?_
  refine g_aload_n d_Mo_matches_9 rfl ?_
  refine g_get f_Mo_19 (by assumption) rfl d_Mo_matches_10 ?_
  refine g_iconst (v := nI 4) d_Mo_matches_13 (by decide) ?_
  refine g_iload_n d_Mo_matches_14 rfl ?_
  refine g_imul d_Mo_matches_15 ?_
  refine g_eqi (pk_mul _ _) ?_
  refine g_iald _ (by assumption) rfl (by omega) (by decide) d_Mo_matches_16 ?_
  refine g_eqi (h5 j i 0 hj hi (by omega)) ?_
  refine g_callS s_Mo_112 sv_Mo_in (g_of_val (k_Mo_in _ _ _)) (by omega) rfl (by omega) (by omega) rfl (Nat.le_of_ble_eq_true rfl) d_Mo_matches_17 ?_
  rintro _ _ _ ⟨rfl, rfl, rfl⟩
  first | refine g_ifB_eq (tgt := 54) d_Mo_matches_20 (by decide) (fun hb_20 => ?_) (fun hb_20 => ?_) | refine g_ifN_eq (tgt := 54) d_Mo_matches_20 (by decide) (by omega) (fun hb_20 => ?_) (fun hb_20 => ?_)
  · rw [e0] at hb_20
    rw [hb_20] at e
    refine g_iconst (v := nI 0) d_Mo_matches_54 (by decide) ?_
    refine g_istore d_Mo_matches_55 (by decide) ?_
    refine g_iload d_Mo_matches_57 rfl ?_
    first | refine g_ifB_eq (tgt := 122) d_Mo_matches_59 (by decide) (fun hb_59 => ?_) (fun hb_59 => ?_) | refine g_ifN_eq (tgt := 122) d_Mo_matches_59 (by decide) (by omega) (fun hb_59 => ?_) (fun hb_59 => ?_)
    · refine g_iconst (v := nI 0) d_Mo_matches_122 (by decide) ?_
      refine g_Fa (b := R) e ?_
      exact g_ireturn rfl (by first | rfl | exact bI_nar _) (by omega) (by omega) d_Mo_matches_123 ⟨rfl, rfl, rfl⟩
    · omega
  refine g_iload_n d_Mo_matches_23 rfl ?_
  refine g_aload_n d_Mo_matches_24 rfl ?_
  refine g_get f_Mo_16 (by assumption) rfl d_Mo_matches_25 ?_
  refine g_iconst (v := nI 4) d_Mo_matches_28 (by decide) ?_
  refine g_iload_n d_Mo_matches_29 rfl ?_
  refine g_imul d_Mo_matches_30 ?_
  refine g_eqi (pk_mul _ _) ?_
  refine g_iconst (v := nI 1) d_Mo_matches_31 (by decide) ?_
  refine g_iadd d_Mo_matches_32 ?_
  refine g_eqi (nI_add _ _) ?_
  refine g_iald _ (by assumption) rfl (by omega) (by decide) d_Mo_matches_33 ?_
  refine g_eqi (h3 j i 1 hj hi (by omega)) ?_
  refine g_aload_n d_Mo_matches_34 rfl ?_
  refine g_get f_Mo_19 (by assumption) rfl d_Mo_matches_35 ?_
  refine g_iconst (v := nI 4) d_Mo_matches_38 (by decide) ?_
  refine g_iload_n d_Mo_matches_39 rfl ?_
  refine g_imul d_Mo_matches_40 ?_
  refine g_eqi (pk_mul _ _) ?_
  refine g_iconst (v := nI 1) d_Mo_matches_41 (by decide) ?_
  refine g_iadd d_Mo_matches_42 ?_
  refine g_eqi (nI_add _ _) ?_
  refine g_iald _ (by assumption) rfl (by omega) (by decide) d_Mo_matches_43 ?_
  refine g_eqi (h5 j i 1 hj hi (by omega)) ?_
  rw [e0] at hb_20
  refine g_callS s_Mo_112 sv_Mo_in (g_of_val (k_Mo_in _ _ _)) (by omega) rfl (by omega) (by omega) rfl (Nat.le_of_ble_eq_true rfl) d_Mo_matches_44 ?_
  rintro _ _ _ ⟨rfl, rfl, rfl⟩
  first | refine g_ifB_eq (tgt := 54) d_Mo_matches_47 (by decide) (fun hb_47 => ?_) (fun hb_47 => ?_) | refine g_ifN_eq (tgt := 54) d_Mo_matches_47 (by decide) (by omega) (fun hb_47 => ?_) (fun hb_47 => ?_)
  · rw [e1] at hb_47
    rw [hb_47, Bool.and_false] at e
    refine g_iconst (v := nI 0) d_Mo_matches_54 (by decide) ?_
    refine g_istore d_Mo_matches_55 (by decide) ?_
    refine g_iload d_Mo_matches_57 rfl ?_
    first | refine g_ifB_eq (tgt := 122) d_Mo_matches_59 (by decide) (fun hb_59 => ?_) (fun hb_59 => ?_) | refine g_ifN_eq (tgt := 122) d_Mo_matches_59 (by decide) (by omega) (fun hb_59 => ?_) (fun hb_59 => ?_)
    · refine g_iconst (v := nI 0) d_Mo_matches_122 (by decide) ?_
      refine g_Fa (b := R) e ?_
      exact g_ireturn rfl (by first | rfl | exact bI_nar _) (by omega) (by omega) d_Mo_matches_123 ⟨rfl, rfl, rfl⟩
    · omega
  rw [e1] at hb_47
  refine g_iconst (v := nI 1) d_Mo_matches_50 (by decide) ?_
  refine g_goto (tgt := 55) d_Mo_matches_51 (by decide) ?_
  refine g_istore d_Mo_matches_55 (by decide) ?_
  refine g_iload d_Mo_matches_57 rfl ?_
  first | refine g_ifB_eq (tgt := 122) d_Mo_matches_59 (by decide) (fun hb_59 => ?_) (fun hb_59 => ?_) | refine g_ifN_eq (tgt := 122) d_Mo_matches_59 (by decide) (by omega) (fun hb_59 => ?_) (fun hb_59 => ?_)
  · omega
  refine g_iload d_Mo_matches_62 rfl ?_
  refine g_aload_n d_Mo_matches_64 rfl ?_
  refine g_get f_Mo_16 (by assumption) rfl d_Mo_matches_65 ?_
  refine g_iconst (v := nI 4) d_Mo_matches_68 (by decide) ?_
  refine g_iload_n d_Mo_matches_69 rfl ?_
  refine g_imul d_Mo_matches_70 ?_
  refine g_eqi (pk_mul _ _) ?_
  refine g_iconst (v := nI 2) d_Mo_matches_71 (by decide) ?_
  refine g_iadd d_Mo_matches_72 ?_
  refine g_eqi (nI_add _ _) ?_
  refine g_iald _ (by assumption) rfl (by omega) (by decide) d_Mo_matches_73 ?_
  refine g_eqi (h3 j i 2 hj hi (by omega)) ?_
  refine g_aload_n d_Mo_matches_74 rfl ?_
  refine g_get f_Mo_19 (by assumption) rfl d_Mo_matches_75 ?_
  refine g_iconst (v := nI 4) d_Mo_matches_78 (by decide) ?_
  refine g_iload_n d_Mo_matches_79 rfl ?_
  refine g_imul d_Mo_matches_80 ?_
  refine g_eqi (pk_mul _ _) ?_
  refine g_iconst (v := nI 2) d_Mo_matches_81 (by decide) ?_
  refine g_iadd d_Mo_matches_82 ?_
  refine g_eqi (nI_add _ _) ?_
  refine g_iald _ (by assumption) rfl (by omega) (by decide) d_Mo_matches_83 ?_
  refine g_eqi (h5 j i 2 hj hi (by omega)) ?_
  refine g_callS s_Mo_112 sv_Mo_in (g_of_val (k_Mo_in _ _ _)) (by omega) rfl (by omega) (by omega) rfl (Nat.le_of_ble_eq_true rfl) d_Mo_matches_84 ?_
  rintro _ _ _ ⟨rfl, rfl, rfl⟩
  first | refine g_ifB_eq (tgt := 122) d_Mo_matches_87 (by decide) (fun hb_87 => ?_) (fun hb_87 => ?_) | refine g_ifN_eq (tgt := 122) d_Mo_matches_87 (by decide) (by omega) (fun hb_87 => ?_) (fun hb_87 => ?_)
  · rw [e2] at hb_87
    rw [hb_87, Bool.and_false] at e
    refine g_iconst (v := nI 0) d_Mo_matches_122 (by decide) ?_
    refine g_Fa (b := R) e ?_
    exact g_ireturn rfl (by first | rfl | exact bI_nar _) (by omega) (by omega) d_Mo_matches_123 ⟨rfl, rfl, rfl⟩
  rw [e2] at hb_87
  refine g_iload d_Mo_matches_90 rfl ?_
  refine g_aload_n d_Mo_matches_92 rfl ?_
  refine g_get f_Mo_16 (by assumption) rfl d_Mo_matches_93 ?_
  refine g_iconst (v := nI 4) d_Mo_matches_96 (by decide) ?_
  refine g_iload_n d_Mo_matches_97 rfl ?_
  refine g_imul d_Mo_matches_98 ?_
  refine g_eqi (pk_mul _ _) ?_
  refine g_iconst (v := nI 3) d_Mo_matches_99 (by decide) ?_
  refine g_iadd d_Mo_matches_100 ?_
  refine g_eqi (nI_add _ _) ?_
  refine g_iald _ (by assumption) rfl (by omega) (by decide) d_Mo_matches_101 ?_
  refine g_eqi (h3 j i 3 hj hi (by omega)) ?_
  refine g_aload_n d_Mo_matches_102 rfl ?_
  refine g_get f_Mo_19 (by assumption) rfl d_Mo_matches_103 ?_
  refine g_iconst (v := nI 4) d_Mo_matches_106 (by decide) ?_
  refine g_iload_n d_Mo_matches_107 rfl ?_
  refine g_imul d_Mo_matches_108 ?_
  refine g_eqi (pk_mul _ _) ?_
  refine g_iconst (v := nI 3) d_Mo_matches_109 (by decide) ?_
  refine g_iadd d_Mo_matches_110 ?_
  refine g_eqi (nI_add _ _) ?_
  refine g_iald _ (by assumption) rfl (by omega) (by decide) d_Mo_matches_111 ?_
  refine g_eqi (h5 j i 3 hj hi (by omega)) ?_
  refine g_callS s_Mo_112 sv_Mo_in (g_of_val (k_Mo_in _ _ _)) (by omega) rfl (by omega) (by omega) rfl (Nat.le_of_ble_eq_true rfl) d_Mo_matches_112 ?_
  rintro _ _ _ ⟨rfl, rfl, rfl⟩
  first | refine g_ifB_eq (tgt := 122) d_Mo_matches_115 (by decide) (fun hb_115 => ?_) (fun hb_115 => ?_) | refine g_ifN_eq (tgt := 122) d_Mo_matches_115 (by decide) (by omega) (fun hb_115 => ?_) (fun hb_115 => ?_)
  · rw [e3] at hb_115
    rw [hb_115, Bool.and_false] at e
    refine g_iconst (v := nI 0) d_Mo_matches_122 (by decide) ?_
    refine g_Fa (b := R) e ?_
    exact g_ireturn rfl (by first | rfl | exact bI_nar _) (by omega) (by omega) d_Mo_matches_123 ⟨rfl, rfl, rfl⟩
  rw [e3] at hb_115
  rw [hb_20, hb_47, hb_87, hb_115] at e
  refine g_iconst (v := nI 1) d_Mo_matches_118 (by decide) ?_
  refine g_goto (tgt := 123) d_Mo_matches_119 (by decide) ?_
  refine g_Tr (b := R) e ?_
  exact g_ireturn rfl (by first | rfl | exact bI_nar _) (by omega) (by omega) d_Mo_matches_123 ⟨rfl, rfl, rfl⟩
theorem k_Mo_firstOf (h : M W = some (.inr (10, mo W th sz lk rc pl fa))) (hL : o_ml E M W mm rr) (j a b c d : Nat) (hj : j < 2) (ha : a ≤ 255) (hb : b ≤ 255) (hc : c ≤ 1023) (hd : d ≤ 3) : Ctr l E y_Mo_firstOf 2 [.ref W, .int (nI j), .int (nI a), .int (nI b), .int (nI c), .int (nI d)] N M 0 0 (g_val (some (.int (fI (fi (fun i => r_m (rr j i) (pkt a b c d)) (mm j)) (mm j)))) N M) := by
  have hL0 := hL
  obtain ⟨h1, -, -, -, fc, h2, h3⟩ := hL
  obtain ⟨hm, -⟩ := h1 j hj
  refine ctr_of [some (.ref W), some (.int (nI j)), some (.int (nI a)), some (.int (nI b)), some (.int (nI c)), some (.int (nI d)), none] (by decide) w_1072 rfl rfl (Nat.le_of_ble_eq_true rfl) (fun Γ => ?_)
  refine g_iconst (v := nI 0) d_Mo_firstOf_0 (by decide) ?_
  refine g_istore d_Mo_firstOf_1 (by decide) ?_
  refine g_for (P := fun i => (∀ k, k < i → r_m (rr j k) (pkt a b c d) = false) → G _ _ _ _ _ _ _ _ _ _ _ _ 3 [some (.ref W), some (.int (nI j)), some (.int (nI a)), some (.int (nI b)), some (.int (nI c)), some (.int (nI d)), some (.int (nI i))] [] N M 0 0) (e := mm j) ?_ ?_ 0 (by omega) (fun k hk => by omega)
  · intro hno
    refine g_iload d_Mo_firstOf_3 rfl ?_
    refine g_aload_n d_Mo_firstOf_5 rfl ?_
    refine g_get f_Mo_22 (by assumption) rfl d_Mo_firstOf_6 ?_
    refine g_iload_n d_Mo_firstOf_9 rfl ?_
    refine g_iald _ (by assumption) rfl (by omega) (by decide) d_Mo_firstOf_10 ?_
    refine g_eqi (h3 j hj) ?_
    refine g_icmpN_ge (tgt := 43) d_Mo_firstOf_11 (by decide) (by omega) (by omega) (fun hb_11 => ?_) (fun hb_11 => ?_)
    · refine g_iconst (v := -1) d_Mo_firstOf_43 (by decide) ?_
      refine g_eqi (z := fI (fi (fun i => r_m (rr j i) (pkt a b c d)) (mm j)) (mm j)) (by rw [fi_none hno]; unfold fI; rw [if_neg (by omega)]) ?_
      exact g_ireturn rfl (by first | rfl | exact bI_nar _) (by omega) (by omega) d_Mo_firstOf_44 ⟨rfl, rfl, rfl⟩
    · omega
  · intro i hi ih hno
    refine g_iload d_Mo_firstOf_3 rfl ?_
    refine g_aload_n d_Mo_firstOf_5 rfl ?_
    refine g_get f_Mo_22 (by assumption) rfl d_Mo_firstOf_6 ?_
    refine g_iload_n d_Mo_firstOf_9 rfl ?_
    refine g_iald _ (by assumption) rfl (by omega) (by decide) d_Mo_firstOf_10 ?_
    refine g_eqi (h3 j hj) ?_
    refine g_icmpN_ge (tgt := 43) d_Mo_firstOf_11 (by decide) (by omega) (by omega) (fun hb_11 => ?_) (fun hb_11 => ?_)
    · omega
    refine g_aload_n d_Mo_firstOf_14 rfl ?_
    refine g_bipush (v := nI 8) d_Mo_firstOf_15 (by decide) ?_
    refine g_iload_n d_Mo_firstOf_17 rfl ?_
    refine g_imul d_Mo_firstOf_18 ?_
    refine g_eqi (pk_mul _ _) ?_
    refine g_iload d_Mo_firstOf_19 rfl ?_
    refine g_iadd d_Mo_firstOf_21 ?_
    refine g_eqi (nI_add _ _) ?_
    refine g_iload_n d_Mo_firstOf_22 rfl ?_
    refine g_iload_n d_Mo_firstOf_23 rfl ?_
    refine g_iload d_Mo_firstOf_24 rfl ?_
    refine g_iload d_Mo_firstOf_26 rfl ?_
    refine g_callV s_Mo_130 sv_Mo_matches (by assumption) rfl (g_of_val (k_Mo_matches h hL0 j i a b c d hj hi ha hb hc hd)) (by omega) rfl (by omega) (by omega) rfl (Nat.le_of_ble_eq_true rfl) d_Mo_firstOf_28 ?_
    rintro _ _ _ ⟨rfl, rfl, rfl⟩
    first | refine g_ifB_eq (tgt := 37) d_Mo_firstOf_31 (by decide) (fun hb_31 => ?_) (fun hb_31 => ?_) | refine g_ifN_eq (tgt := 37) d_Mo_firstOf_31 (by decide) (by omega) (fun hb_31 => ?_) (fun hb_31 => ?_)
    · refine g_iinc1 d_Mo_firstOf_37 rfl (by decide) ?_
      refine g_goto (tgt := 3) d_Mo_firstOf_40 (by decide) ?_
      refine ih (fun k hk => ?_)
      by_cases e : k = i
      · rw [e]; exact hb_31
      · exact hno k (by omega)
    · refine g_iload d_Mo_firstOf_34 rfl ?_
      refine g_eqi (z := fI (fi (fun i => r_m (rr j i) (pkt a b c d)) (mm j)) (mm j)) (by rw [fi_at hi hb_31 hno]; unfold fI; rw [if_pos hi]) ?_
      exact g_ireturn rfl (by first | rfl | exact bI_nar _) (by omega) (by omega) d_Mo_firstOf_36 ⟨rfl, rfl, rfl⟩
theorem k_Mo_verdictBy (h : M W = some (.inr (10, mo W th sz lk rc pl fa))) (hL : o_ml E M W mm rr) (j a b c d : Nat) (hj : j < 2) (ha : a ≤ 255) (hb : b ≤ 255) (hc : c ≤ 1023) (hd : d ≤ 3) : Ctr l E y_Mo_verdictBy 3 [.ref W, .int (nI j), .int (nI a), .int (nI b), .int (nI c), .int (nI d)] N M 0 0 (g_val (some (.int (nI (jdg (rr j) (mm j) (pkt a b c d))))) N M) := by
  have hL0 := hL
  obtain ⟨h1, ⟨fv, h2, h3⟩, -⟩ := hL
  obtain ⟨hm, -⟩ := h1 j hj
  have hk := fun (N : Nat) => k_Mo_firstOf (l := l) (N := N) h hL0 j a b c d hj ha hb hc hd
  unfold jdg
  generalize fi (fun i => r_m (rr j i) (pkt a b c d)) (mm j) = k at hk ⊢
  refine ctr_of [some (.ref W), some (.int (nI j)), some (.int (nI a)), some (.int (nI b)), some (.int (nI c)), some (.int (nI d)), none] (by decide) w_1068 rfl rfl (Nat.le_of_ble_eq_true rfl) (fun Γ => ?_)
  refine g_aload_n d_Mo_verdictBy_0 rfl ?_
  refine g_iload_n d_Mo_verdictBy_1 rfl ?_
  refine g_iload_n d_Mo_verdictBy_2 rfl ?_
  refine g_iload_n d_Mo_verdictBy_3 rfl ?_
  refine g_iload d_Mo_verdictBy_4 rfl ?_
  refine g_iload d_Mo_verdictBy_6 rfl ?_
  refine g_callV s_Mo_134 sv_Mo_firstOf (by assumption) rfl (g_of_val (hk _)) (by omega) rfl (by omega) (by omega) rfl (Nat.le_of_ble_eq_true rfl) d_Mo_verdictBy_8 ?_
  rintro _ _ _ ⟨rfl, rfl, rfl⟩
  refine g_istore d_Mo_verdictBy_11 (by decide) ?_
  refine g_iload d_Mo_verdictBy_13 rfl ?_
  by_cases hkm : k < mm j
  · rw [show fI k (mm j) = nI k from if_pos hkm, if_pos hkm]
    refine g_ifN_ge (tgt := 22) d_Mo_verdictBy_15 (by decide) (by omega) (fun hb_15 => ?_) (fun hb_15 => hb_15.elim)
    refine g_aload_n d_Mo_verdictBy_22 rfl ?_
    refine g_get f_Mo_13 (by assumption) rfl d_Mo_verdictBy_23 ?_
    refine g_bipush (v := nI 8) d_Mo_verdictBy_26 (by decide) ?_
    refine g_iload_n d_Mo_verdictBy_28 rfl ?_
    refine g_imul d_Mo_verdictBy_29 ?_
    refine g_eqi (pk_mul _ _) ?_
    refine g_iload d_Mo_verdictBy_30 rfl ?_
    refine g_iadd d_Mo_verdictBy_32 ?_
    refine g_eqi (nI_add _ _) ?_
    refine g_iald _ (by assumption) rfl (by omega) (by decide) d_Mo_verdictBy_33 ?_
    refine g_eqi (h3 j k hj hkm) ?_
    exact g_ireturn rfl (by first | rfl | exact bI_nar _) (by omega) (by omega) d_Mo_verdictBy_34 ⟨rfl, rfl, rfl⟩
  · rw [show fI k (mm j) = -1 from if_neg hkm, if_neg hkm]
    refine g_if_ge (tgt := 22) d_Mo_verdictBy_15 (by decide) (fun hb_15 => absurd hb_15 (by decide)) (fun hb_15 => ?_)
    refine g_iconst (v := nI 0) d_Mo_verdictBy_18 (by decide) ?_
    refine g_goto (tgt := 34) d_Mo_verdictBy_19 (by decide) ?_
    exact g_ireturn rfl (by first | rfl | exact bI_nar _) (by omega) (by omega) d_Mo_verdictBy_34 ⟨rfl, rfl, rfl⟩
def npI (a b c d : Int32) : Bool := !(inI a (nI 0) (nI 255) && (inI b (nI 0) (nI 255) && (inI c (nI 0) (nI 1023) && inI d (nI 0) (nI 3))))
theorem k_Mo_noPacket (a b c d : Int32) (h : M W = some (.inr (10, mo W th sz lk rc pl fa))) : Ctr l E y_Mo_noPacket 1 [.ref W, .int a, .int b, .int c, .int d] N M 0 0 (g_val (some (.int (bI (npI a b c d)))) N M) := by
  refine ctr_of [some (.ref W), some (.int a), some (.int b), some (.int c), some (.int d)] (by decide) w_1064 rfl rfl (Nat.le_of_ble_eq_true rfl) (fun Γ => ?_)
  refine g_iload_n d_Mo_noPacket_0 rfl ?_
  refine g_iconst (v := nI 0) d_Mo_noPacket_1 (by decide) ?_
  refine g_sipush (v := nI 255) d_Mo_noPacket_2 (by decide) ?_
  refine g_callS s_Mo_112 sv_Mo_in (g_of_val (k_Mo_in _ _ _)) (by omega) rfl (by omega) (by omega) rfl (Nat.le_of_ble_eq_true rfl) d_Mo_noPacket_5 ?_
  rintro _ _ _ ⟨rfl, rfl, rfl⟩
  first | refine g_ifB_eq (tgt := 43) d_Mo_noPacket_8 (by decide) (fun hb_8 => ?_) (fun hb_8 => ?_) | refine g_ifN_eq (tgt := 43) d_Mo_noPacket_8 (by decide) (by omega) (fun hb_8 => ?_) (fun hb_8 => ?_)
  · refine g_iconst (v := nI 1) d_Mo_noPacket_43 (by decide) ?_
    refine g_goto (tgt := 48) d_Mo_noPacket_44 (by decide) ?_
    refine g_Tr (b := npI a b c d) (by unfold npI; rw [hb_8]; rfl) ?_
    exact g_ireturn rfl (by first | rfl | exact bI_nar _) (by omega) (by omega) d_Mo_noPacket_48 ⟨rfl, rfl, rfl⟩
  refine g_iload_n d_Mo_noPacket_11 rfl ?_
  refine g_iconst (v := nI 0) d_Mo_noPacket_12 (by decide) ?_
  refine g_sipush (v := nI 255) d_Mo_noPacket_13 (by decide) ?_
  refine g_callS s_Mo_112 sv_Mo_in (g_of_val (k_Mo_in _ _ _)) (by omega) rfl (by omega) (by omega) rfl (Nat.le_of_ble_eq_true rfl) d_Mo_noPacket_16 ?_
  rintro _ _ _ ⟨rfl, rfl, rfl⟩
  first | refine g_ifB_eq (tgt := 43) d_Mo_noPacket_19 (by decide) (fun hb_19 => ?_) (fun hb_19 => ?_) | refine g_ifN_eq (tgt := 43) d_Mo_noPacket_19 (by decide) (by omega) (fun hb_19 => ?_) (fun hb_19 => ?_)
  · refine g_iconst (v := nI 1) d_Mo_noPacket_43 (by decide) ?_
    refine g_goto (tgt := 48) d_Mo_noPacket_44 (by decide) ?_
    refine g_Tr (b := npI a b c d) (by unfold npI; rw [hb_19, Bool.false_and, Bool.and_false]; rfl) ?_
    exact g_ireturn rfl (by first | rfl | exact bI_nar _) (by omega) (by omega) d_Mo_noPacket_48 ⟨rfl, rfl, rfl⟩
  refine g_iload_n d_Mo_noPacket_22 rfl ?_
  refine g_iconst (v := nI 0) d_Mo_noPacket_23 (by decide) ?_
  refine g_sipush (v := nI 1023) d_Mo_noPacket_24 (by decide) ?_
  refine g_callS s_Mo_112 sv_Mo_in (g_of_val (k_Mo_in _ _ _)) (by omega) rfl (by omega) (by omega) rfl (Nat.le_of_ble_eq_true rfl) d_Mo_noPacket_27 ?_
  rintro _ _ _ ⟨rfl, rfl, rfl⟩
  first | refine g_ifB_eq (tgt := 43) d_Mo_noPacket_30 (by decide) (fun hb_30 => ?_) (fun hb_30 => ?_) | refine g_ifN_eq (tgt := 43) d_Mo_noPacket_30 (by decide) (by omega) (fun hb_30 => ?_) (fun hb_30 => ?_)
  · refine g_iconst (v := nI 1) d_Mo_noPacket_43 (by decide) ?_
    refine g_goto (tgt := 48) d_Mo_noPacket_44 (by decide) ?_
    refine g_Tr (b := npI a b c d) (by unfold npI; rw [hb_30, Bool.false_and, Bool.and_false, Bool.and_false]; rfl) ?_
    exact g_ireturn rfl (by first | rfl | exact bI_nar _) (by omega) (by omega) d_Mo_noPacket_48 ⟨rfl, rfl, rfl⟩
  refine g_iload d_Mo_noPacket_33 rfl ?_
  refine g_iconst (v := nI 0) d_Mo_noPacket_35 (by decide) ?_
  refine g_iconst (v := nI 3) d_Mo_noPacket_36 (by decide) ?_
  refine g_callS s_Mo_112 sv_Mo_in (g_of_val (k_Mo_in _ _ _)) (by omega) rfl (by omega) (by omega) rfl (Nat.le_of_ble_eq_true rfl) d_Mo_noPacket_37 ?_
  rintro _ _ _ ⟨rfl, rfl, rfl⟩
  first | refine g_ifB_ne (tgt := 47) d_Mo_noPacket_40 (by decide) (fun hb_40 => ?_) (fun hb_40 => ?_) | refine g_ifN_ne (tgt := 47) d_Mo_noPacket_40 (by decide) (by omega) (fun hb_40 => ?_) (fun hb_40 => ?_)
  · refine g_iconst (v := nI 0) d_Mo_noPacket_47 (by decide) ?_
    refine g_Fa (b := npI a b c d) (by unfold npI; rw [hb_8, hb_19, hb_30, hb_40]; rfl) ?_
    exact g_ireturn rfl (by first | rfl | exact bI_nar _) (by omega) (by omega) d_Mo_noPacket_48 ⟨rfl, rfl, rfl⟩
  · refine g_iconst (v := nI 1) d_Mo_noPacket_43 (by decide) ?_
    refine g_goto (tgt := 48) d_Mo_noPacket_44 (by decide) ?_
    refine g_Tr (b := npI a b c d) (by unfold npI; rw [hb_40, Bool.and_false, Bool.and_false, Bool.and_false]; rfl) ?_
    exact g_ireturn rfl (by first | rfl | exact bI_nar _) (by omega) (by omega) d_Mo_noPacket_48 ⟨rfl, rfl, rfl⟩
theorem npI_yes {a b c d : Nat} (ha : a ≤ 255) (hb : b ≤ 255) (hc : c ≤ 1023) (hd : d ≤ 3) : npI (nI a) (nI b) (nI c) (nI d) = false := by
  unfold npI
  rw [inI_yes ha (by omega), inI_yes hb (by omega), inI_yes hc (by omega), inI_yes hd (by omega)]; rfl
theorem npI_no {a b c d : Int32} (h : noP a b c d) : npI a b c d = true := by
  unfold npI
  rcases h with h | h | h | h
  · rw [inI_no h (by omega)]; rfl
  · rw [inI_no h (by omega), Bool.false_and, Bool.and_false]; rfl
  · rw [inI_no h (by omega), Bool.false_and, Bool.and_false, Bool.and_false]; rfl
  · rw [inI_no h (by omega), Bool.and_false, Bool.and_false, Bool.and_false]; rfl
end MODEL2

