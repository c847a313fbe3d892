/-! the model's reader: blanks, words, numbers -/
section MPARSE
variable {l : Launch} {E : gE} {N : Nat} {M : gM} {W n : Nat} {th lk rc fa : Int32} {ts : Nat → Nat}
theorem k_Mo_blanks (p : Nat) (hp : p ≤ 300) (h : M W = some (.inr (10, mo W th (nI n) lk rc (nI p) fa))) (hT : o_mt E M W n ts) : Ctr l E y_Mo_blanks 1 [.ref W] N M 0 0 (g_ret (fun v N' M' => v = none ∧ N' = N ∧ M' W = some (.inr (10, mo W th (nI n) lk rc (nI (bh n ts p 1)) fa)) ∧ ∀ x, x ≠ W → M' x = M x)) := by
  have hn := hT.1
  have hin := bh_in n ts p 1
  have hup : bh n ts p 1 ≤ 300 := by
    by_cases c : p ≤ n
    · have := hin.2 c; omega
    · have : bh n ts p 1 = p := by unfold bh; rw [show n - p = 0 by omega]; rfl
      omega
  refine ctr_of [some (.ref W)] (by decide) w_983 rfl rfl (Nat.le_of_ble_eq_true rfl) (fun Γ => ?_)
  refine g_for (P := fun i => ∀ (M1 : gM), M1 W = some (.inr (10, mo W th (nI n) lk rc (nI (p + i)) fa)) → (∀ x, x ≠ W → M1 x = M x) → G _ _ _ _ _ _ _ _ _ _ _ _ 0 [some (.ref W)] [] N M1 0 0) (e := bh n ts p 1 - p) ?_ ?_ 0 (by omega) M h (fun _ _ => rfl)
  · intro M1 e1 f1
    have hT1 := hT.kept (M' := M1) (f1 _ (by omega))
    rw [show p + (bh n ts p 1 - p) = bh n ts p 1 by omega] at e1
    have hk : kd n ts (bh n ts p 1) ≠ 1 := by
      by_cases c : p ≤ n
      · by_cases c2 : bh n ts p 1 < n
        · exact bh_end c c2
        · intro q
          have := kd_0 (n := n) (ts := ts) (k := bh n ts p 1)
          omega
      · intro q
        have := kd_0 (n := n) (ts := ts) (k := bh n ts p 1)
        omega
    have hs := fun q => hk ((sgt_1 n ts (bh n ts p 1)).mp q)
    have hl := sgt_lt hT1 (bh n ts p 1)
    refine g_aload_n d_Mo_blanks_0 rfl ?_
    refine g_aload_n d_Mo_blanks_1 rfl ?_
    refine g_get f_Mo_61 (by assumption) rfl d_Mo_blanks_2 ?_
    refine g_callV s_Mo_64 sv_Mo_sign (by assumption) rfl (g_of_val (k_Mo_sign e1 hT1 (bh n ts p 1) (by omega))) (by omega) rfl (by omega) (by omega) rfl (Nat.le_of_ble_eq_true rfl) d_Mo_blanks_5 ?_
    rintro _ _ _ ⟨rfl, rfl, rfl⟩
    refine g_bipush (v := nI 32) d_Mo_blanks_8 (by decide) ?_
    refine g_icmpN_eq (tgt := 26) d_Mo_blanks_10 (by decide) (by omega) (by omega) (fun hb_10 => ?_) (fun hb_10 => ?_)
    · exact absurd (Or.inl hb_10) hs
    refine g_aload_n d_Mo_blanks_13 rfl ?_
    refine g_aload_n d_Mo_blanks_14 rfl ?_
    refine g_get f_Mo_61 (by assumption) rfl d_Mo_blanks_15 ?_
    refine g_callV s_Mo_64 sv_Mo_sign (by assumption) rfl (g_of_val (k_Mo_sign e1 hT1 (bh n ts p 1) (by omega))) (by omega) rfl (by omega) (by omega) rfl (Nat.le_of_ble_eq_true rfl) d_Mo_blanks_18 ?_
    rintro _ _ _ ⟨rfl, rfl, rfl⟩
    refine g_bipush (v := nI 10) d_Mo_blanks_21 (by decide) ?_
    refine g_icmpN_ne (tgt := 39) d_Mo_blanks_23 (by decide) (by omega) (by omega) (fun hb_23 => ?_) (fun hb_23 => ?_)
    · exact g_return rfl (by omega) (by omega) d_Mo_blanks_39 ⟨_, rfl, rfl, rfl, e1, f1⟩
    · exact absurd (Or.inr hb_23) hs
  · intro i hi ih M1 e1 f1
    have hT1 := hT.kept (M' := M1) (f1 _ (by omega))
    have hk := (sgt_1 n ts (p + i)).mpr (bh_all (p := p) (x := 1) (by omega) (by omega))
    have hl := sgt_lt hT1 (p + i)
    refine g_aload_n d_Mo_blanks_0 rfl ?_
    refine g_aload_n d_Mo_blanks_1 rfl ?_
    refine g_get f_Mo_61 (by assumption) rfl d_Mo_blanks_2 ?_
    refine g_callV s_Mo_64 sv_Mo_sign (by assumption) rfl (g_of_val (k_Mo_sign e1 hT1 (p + i) (by omega))) (by omega) rfl (by omega) (by omega) rfl (Nat.le_of_ble_eq_true rfl) d_Mo_blanks_5 ?_
    rintro _ _ _ ⟨rfl, rfl, rfl⟩
    refine g_bipush (v := nI 32) d_Mo_blanks_8 (by decide) ?_
    refine g_icmpN_eq (tgt := 26) d_Mo_blanks_10 (by decide) (by omega) (by omega) (fun hb_10 => ?_) (fun hb_10 => ?_)
    · refine g_aload_n d_Mo_blanks_26 rfl ?_
      refine g_dup d_Mo_blanks_27 rfl ?_
      refine g_get f_Mo_61 (by assumption) rfl d_Mo_blanks_28 ?_
      refine g_iconst (v := nI 1) d_Mo_blanks_31 (by decide) ?_
      refine g_iadd d_Mo_blanks_32 ?_
      refine g_eqi (nI_add _ _) ?_
      refine g_put p_Mo_61 (by assumption) (Nat.le_of_ble_eq_true rfl) rfl rfl d_Mo_blanks_33 ?_
      refine g_nm (fun M2 e2 f2 => ?_)
      refine g_goto (tgt := 0) d_Mo_blanks_36 (by decide) ?_
      exact ih M2 e2 (fun x hx => (f2 x hx).trans (f1 x hx))
    refine g_aload_n d_Mo_blanks_13 rfl ?_
    refine g_aload_n d_Mo_blanks_14 rfl ?_
    refine g_get f_Mo_61 (by assumption) rfl d_Mo_blanks_15 ?_
    refine g_callV s_Mo_64 sv_Mo_sign (by assumption) rfl (g_of_val (k_Mo_sign e1 hT1 (p + i) (by omega))) (by omega) rfl (by omega) (by omega) rfl (Nat.le_of_ble_eq_true rfl) d_Mo_blanks_18 ?_
    rintro _ _ _ ⟨rfl, rfl, rfl⟩
    refine g_bipush (v := nI 10) d_Mo_blanks_21 (by decide) ?_
    refine g_icmpN_ne (tgt := 39) d_Mo_blanks_23 (by decide) (by omega) (by omega) (fun hb_23 => ?_) (fun hb_23 => ?_)
    · exact absurd hk (by omega)
    · refine g_aload_n d_Mo_blanks_26 rfl ?_
      refine g_dup d_Mo_blanks_27 rfl ?_
      refine g_get f_Mo_61 (by assumption) rfl d_Mo_blanks_28 ?_
      refine g_iconst (v := nI 1) d_Mo_blanks_31 (by decide) ?_
      refine g_iadd d_Mo_blanks_32 ?_
      refine g_eqi (nI_add _ _) ?_
      refine g_put p_Mo_61 (by assumption) (Nat.le_of_ble_eq_true rfl) rfl rfl d_Mo_blanks_33 ?_
      refine g_nm (fun M2 e2 f2 => ?_)
      refine g_goto (tgt := 0) d_Mo_blanks_36 (by decide) ?_
      exact ih M2 e2 (fun x hx => (f2 x hx).trans (f1 x hx))
theorem k_Mo_word (p : Nat) (hp : p ≤ 300) (h : M W = some (.inr (10, mo W th (nI n) lk rc (nI p) fa))) (hT : o_mt E M W n ts) : Ctr l E y_Mo_word 1 [.ref W] N M 0 0 (g_ret (fun v N' M' => v = some (.int (nI (wv n ts p))) ∧ N' = N ∧ M' W = some (.inr (10, mo W th (nI n) lk rc (nI (bh n ts p 2)) fa)) ∧ ∀ x, x ≠ W → M' x = M x)) := by
  have hn := hT.1
  have hin := bh_in n ts p 2
  have hup : bh n ts p 2 ≤ 300 := by
    by_cases c : p ≤ n
    · have := hin.2 c; omega
    · have : bh n ts p 2 = p := by unfold bh; rw [show n - p = 0 by omega]; rfl
      omega
  have hwl := wv_lt n ts p
  refine ctr_of [some (.ref W), none, none] (by decide) w_995 rfl rfl (Nat.le_of_ble_eq_true rfl) (fun Γ => ?_)
  refine g_iconst (v := nI 0) d_Mo_word_0 (by decide) ?_
  refine g_istore_n d_Mo_word_1 (by decide) ?_
  refine g_iconst (v := nI 0) d_Mo_word_2 (by decide) ?_
  refine g_istore_n d_Mo_word_3 (by decide) ?_
  refine g_for (P := fun i => ∀ (M1 : gM), M1 W = some (.inr (10, mo W th (nI n) lk rc (nI (p + i)) fa)) → (∀ x, x ≠ W → M1 x = M x) → G _ _ _ _ _ _ _ _ _ _ _ _ 4 [some (.ref W), some (.int (nI (wvi ts p i))), some (.int (nI i))] [] N M1 0 0) (e := bh n ts p 2 - p) ?_ ?_ 0 (by omega) M h (fun _ _ => rfl)
  · intro M1 e1 f1
    have hT1 := hT.kept (M' := M1) (f1 _ (by omega))
    rw [show p + (bh n ts p 2 - p) = bh n ts p 2 by omega] at e1
    have hk : kd n ts (bh n ts p 2) ≠ 2 := by
      by_cases c : p ≤ n
      · by_cases c2 : bh n ts p 2 < n
        · exact bh_end c c2
        · intro q
          have := kd_0 (n := n) (ts := ts) (k := bh n ts p 2)
          omega
      · intro q
        have := kd_0 (n := n) (ts := ts) (k := bh n ts p 2)
        omega
    have hl := sgt_lt hT1 (bh n ts p 2)
    rw [wvi_end]
    refine g_aload_n d_Mo_word_4 rfl ?_
    refine g_aload_n d_Mo_word_5 rfl ?_
    refine g_get f_Mo_61 (by assumption) rfl d_Mo_word_6 ?_
    refine g_callV s_Mo_64 sv_Mo_sign (by assumption) rfl (g_of_val (k_Mo_sign e1 hT1 (bh n ts p 2) (by omega))) (by omega) rfl (by omega) (by omega) rfl (Nat.le_of_ble_eq_true rfl) d_Mo_word_9 ?_
    rintro _ _ _ ⟨rfl, rfl, rfl⟩
    refine g_callS s_Mo_70 sv_Mo_isLetter (g_of_val (k_Mo_isLetter _ hl)) (by omega) rfl (by omega) (by omega) rfl (Nat.le_of_ble_eq_true rfl) d_Mo_word_12 ?_
    rintro _ _ _ ⟨rfl, rfl, rfl⟩
    first | refine g_ifB_eq (tgt := 60) d_Mo_word_15 (by decide) (fun hb_15 => ?_) (fun hb_15 => ?_) | refine g_ifN_eq (tgt := 60) d_Mo_word_15 (by decide) (by omega) (fun hb_15 => ?_) (fun hb_15 => ?_)
    · refine g_iload_n d_Mo_word_60 rfl ?_
      refine g_iconst (v := nI 5) d_Mo_word_61 (by decide) ?_
      refine g_icmpN_le (tgt := 69) d_Mo_word_62 (by decide) (by omega) (by omega) (fun hb_62 => ?_) (fun hb_62 => ?_)
      · refine g_iload_n d_Mo_word_69 rfl ?_
        exact g_ireturn rfl rfl (by omega) (by omega) d_Mo_word_70 ⟨_, rfl, rfl, rfl, e1, f1⟩
      · skip
        refine g_iconst (v := nI 0) d_Mo_word_65 (by decide) ?_
        refine g_goto (tgt := 70) d_Mo_word_66 (by decide) ?_
        exact g_ireturn rfl rfl (by omega) (by omega) d_Mo_word_70 ⟨_, rfl, by unfold wv; rw [if_pos (by omega)], rfl, e1, f1⟩
    · exact absurd ((sgt_2 n ts _).mp (of_decide_eq_true hb_15)) hk
  · intro i hi ih M1 e1 f1
    have hT1 := hT.kept (M' := M1) (f1 _ (by omega))
    have hk := bh_all (n := n) (ts := ts) (p := p) (x := 2) (j := p + i) (by omega) (by omega)
    have hk2 := (sgt_2 n ts (p + i)).mpr hk
    have hsg : sgt n ts (p + i) = ts (p + i) := if_pos (kd_2 hk).1
    have hl := sgt_lt hT1 (p + i)
    refine g_aload_n d_Mo_word_4 rfl ?_
    refine g_aload_n d_Mo_word_5 rfl ?_
    refine g_get f_Mo_61 (by assumption) rfl d_Mo_word_6 ?_
    refine g_callV s_Mo_64 sv_Mo_sign (by assumption) rfl (g_of_val (k_Mo_sign e1 hT1 (p + i) (by omega))) (by omega) rfl (by omega) (by omega) rfl (Nat.le_of_ble_eq_true rfl) d_Mo_word_9 ?_
    rintro _ _ _ ⟨rfl, rfl, rfl⟩
    refine g_callS s_Mo_70 sv_Mo_isLetter (g_of_val (k_Mo_isLetter _ hl)) (by omega) rfl (by omega) (by omega) rfl (Nat.le_of_ble_eq_true rfl) d_Mo_word_12 ?_
    rintro _ _ _ ⟨rfl, rfl, rfl⟩
    first | refine g_ifB_eq (tgt := 60) d_Mo_word_15 (by decide) (fun hb_15 => ?_) (fun hb_15 => ?_) | refine g_ifN_eq (tgt := 60) d_Mo_word_15 (by decide) (by omega) (fun hb_15 => ?_) (fun hb_15 => ?_)
    · exact absurd hk2 (of_decide_eq_false hb_15)
    refine g_iinc1 d_Mo_word_18 rfl (by decide) ?_
    refine g_iload_n d_Mo_word_21 rfl ?_
    refine g_iconst (v := nI 5) d_Mo_word_22 (by decide) ?_
    refine g_icmpN_le (tgt := 30) d_Mo_word_23 (by decide) (by omega) (by omega) (fun hb_23 => ?_) (fun hb_23 => ?_)
    · refine g_iload_n d_Mo_word_30 rfl ?_
      refine g_bipush (v := nI 32) d_Mo_word_31 (by decide) ?_
      refine g_imul d_Mo_word_33 ?_
      refine g_eqi (pk_mul _ _) ?_
      refine g_aload_n d_Mo_word_34 rfl ?_
      refine g_aload_n d_Mo_word_35 rfl ?_
      refine g_get f_Mo_61 (by assumption) rfl d_Mo_word_36 ?_
      refine g_callV s_Mo_64 sv_Mo_sign (by assumption) rfl (g_of_val (k_Mo_sign e1 hT1 (p + i) (by omega))) (by omega) rfl (by omega) (by omega) rfl (Nat.le_of_ble_eq_true rfl) d_Mo_word_39 ?_
      rintro _ _ _ ⟨rfl, rfl, rfl⟩
      refine g_iadd d_Mo_word_42 ?_
      refine g_eqi (nI_add _ _) ?_
      refine g_bipush (v := nI 96) d_Mo_word_43 (by decide) ?_
      refine g_isub d_Mo_word_45 ?_
      refine g_eqi (z := nI (wvi ts p (i + 1))) (by rw [pk_sub (by omega), hsg]; unfold wvi; rw [if_neg (by omega), if_neg (by omega)]; rfl) ?_
      refine g_istore_n d_Mo_word_46 (by decide) ?_
      refine g_aload_n d_Mo_word_47 rfl ?_
      refine g_dup d_Mo_word_48 rfl ?_
      refine g_get f_Mo_61 (by assumption) rfl d_Mo_word_49 ?_
      refine g_iconst (v := nI 1) d_Mo_word_52 (by decide) ?_
      refine g_iadd d_Mo_word_53 ?_
      refine g_eqi (nI_add _ _) ?_
      refine g_put p_Mo_61 (by assumption) (Nat.le_of_ble_eq_true rfl) rfl rfl d_Mo_word_54 ?_
      refine g_nm (fun M2 e2 f2 => ?_)
      refine g_goto (tgt := 4) d_Mo_word_57 (by decide) ?_
      exact ih M2 e2 (fun x hx => (f2 x hx).trans (f1 x hx))
    · refine g_iconst (v := nI 0) d_Mo_word_26 (by decide) ?_
      refine g_goto (tgt := 46) d_Mo_word_27 (by decide) ?_
      refine g_eqi (z := nI (wvi ts p (i + 1))) (by unfold wvi; rw [if_pos (by omega)]) ?_
      refine g_istore_n d_Mo_word_46 (by decide) ?_
      refine g_aload_n d_Mo_word_47 rfl ?_
      refine g_dup d_Mo_word_48 rfl ?_
      refine g_get f_Mo_61 (by assumption) rfl d_Mo_word_49 ?_
      refine g_iconst (v := nI 1) d_Mo_word_52 (by decide) ?_
      refine g_iadd d_Mo_word_53 ?_
      refine g_eqi (nI_add _ _) ?_
      refine g_put p_Mo_61 (by assumption) (Nat.le_of_ble_eq_true rfl) rfl rfl d_Mo_word_54 ?_
      refine g_nm (fun M2 e2 f2 => ?_)
      refine g_goto (tgt := 4) d_Mo_word_57 (by decide) ?_
      exact ih M2 e2 (fun x hx => (f2 x hx).trans (f1 x hx))
theorem k_Mo_number (p lo hi : Nat) (hp : p ≤ n) (hlo : lo < 2 ^ 31) (hhi : hi < 2 ^ 31) (h : M W = some (.inr (10, mo W th (nI n) lk rc (nI p) (-1)))) (hT : o_mt E M W n ts) : Ctr l E y_Mo_number 2 [.ref W, .int (nI lo), .int (nI hi)] N M 0 0 (g_ret (fun v N' M' => (∃ w, v = some (.int (nI w)) ∧ w < 10000 ∧ (nb n ts (bh n ts p 1) lo hi = true → w = nv n ts (bh n ts p 1))) ∧ N' = N ∧ M' W = some (.inr (10, mo W th (nI n) lk rc (nI (bh n ts (bh n ts p 1) 3)) (if nb n ts (bh n ts p 1) lo hi = true then -1 else nI (bh n ts p 1)))) ∧ ∀ x, x ≠ W → M' x = M x)) := by
  have hn := hT.1
  have hb1 := (bh_in n ts p 1).2 hp
  refine ctr_of [some (.ref W), some (.int (nI lo)), some (.int (nI hi)), none, none] (by decide) w_1025 rfl rfl (Nat.le_of_ble_eq_true rfl) (fun Γ => ?_)
  refine g_aload_n d_Mo_number_0 rfl ?_
  refine g_callV s_Mo_78 sv_Mo_blanks (by assumption) rfl (k_Mo_blanks p (by omega) h hT) (by omega) rfl (by omega) (by omega) rfl (Nat.le_of_ble_eq_true rfl) d_Mo_number_1 ?_
  rintro v' N' M0 ⟨rfl, rfl, e0, f0⟩
  generalize bh n ts p 1 = b at hb1 e0 ⊢
  have hin := bh_in n ts b 3
  have hq := hin.2 hb1
  have hnb := nb_iff (lo := lo) (hi := hi) (ts := ts) hb1
  have hdl := dvi_lt (n := n) (ts := ts) (b := b)
  refine g_aload_n d_Mo_number_4 rfl ?_
  refine g_get f_Mo_61 (by assumption) rfl d_Mo_number_5 ?_
  refine g_istore_n d_Mo_number_8 (by decide) ?_
  refine g_iconst (v := nI 0) d_Mo_number_9 (by decide) ?_
  refine g_istore d_Mo_number_10 (by decide) ?_
  refine g_for (P := fun i => ∀ (M1 : gM), M1 W = some (.inr (10, mo W th (nI n) lk rc (nI (b + i)) (-1))) → (∀ x, x ≠ W → M1 x = M x) → G _ _ _ _ _ _ _ _ _ _ _ _ 12 [some (.ref W), some (.int (nI lo)), some (.int (nI hi)), some (.int (nI b)), some (.int (nI (dvi ts b i)))] [] _ M1 0 0) (e := bh n ts b 3 - b) ?_ ?_ 0 (by omega) M0 e0 f0
  · intro M1 e1 f1
    have hT1 := hT.kept (M' := M1) (f1 _ (by omega))
    rw [show b + (bh n ts b 3 - b) = bh n ts b 3 by omega] at e1
    have hk : kd n ts (bh n ts b 3) ≠ 3 := by
      by_cases c2 : bh n ts b 3 < n
      · exact bh_end hb1 c2
      · intro q
        have := kd_0 (n := n) (ts := ts) (k := bh n ts b 3)
        omega
    have hl := sgt_lt hT1 (bh n ts b 3)
    have hdv := hdl _ (Nat.le_refl _)
    have hval := nb_val (n := n) (ts := ts) (b := b) (lo := lo) (hi := hi)
    generalize dvi ts b (bh n ts b 3 - b) = v at hnb hdv hval ⊢
    generalize bh n ts b 3 = q at *
    refine g_aload_n d_Mo_number_12 rfl ?_
    refine g_aload_n d_Mo_number_13 rfl ?_
    refine g_get f_Mo_61 (by assumption) rfl d_Mo_number_14 ?_
    refine g_callV s_Mo_64 sv_Mo_sign (by assumption) rfl (g_of_val (k_Mo_sign e1 hT1 q (by omega))) (by omega) rfl (by omega) (by omega) rfl (Nat.le_of_ble_eq_true rfl) d_Mo_number_17 ?_
    rintro _ _ _ ⟨rfl, rfl, rfl⟩
    refine g_callS s_Mo_81 sv_Mo_isDigit (g_of_val (k_Mo_isDigit _ hl)) (by omega) rfl (by omega) (by omega) rfl (Nat.le_of_ble_eq_true rfl) d_Mo_number_20 ?_
    rintro _ _ _ ⟨rfl, rfl, rfl⟩
    first | refine g_ifB_eq (tgt := 74) d_Mo_number_23 (by decide) (fun hb_23 => ?_) (fun hb_23 => ?_) | refine g_ifN_eq (tgt := 74) d_Mo_number_23 (by decide) (by omega) (fun hb_23 => ?_) (fun hb_23 => ?_)
    rotate_left
    · exact absurd ((sgt_3 n ts _).mp (of_decide_eq_true hb_23)) hk
    refine g_aload_n d_Mo_number_74 rfl ?_
    refine g_get f_Mo_61 (by assumption) rfl d_Mo_number_75 ?_
    refine g_iload_n d_Mo_number_78 rfl ?_
    refine g_icmpN_eq (tgt := 104) d_Mo_number_79 (by decide) (by omega) (by omega) (fun hb_79 => ?_) (fun hb_79 => ?_)
    · have hno : ¬ nb n ts b lo hi = true := fun z => (hnb.mp z).1 hb_79
      rw [if_neg hno]
      refine g_aload_n d_Mo_number_104 rfl ?_
      refine g_iload_n d_Mo_number_105 rfl ?_
      refine g_callV s_Mo_84 sv_Mo_bad (by assumption) rfl (k_Mo_bad e1 b) (by omega) rfl (by omega) (by omega) rfl (Nat.le_of_ble_eq_true rfl) d_Mo_number_106 ?_
      rintro v' N' M2 ⟨rfl, rfl, e2, f2⟩
      refine g_iload d_Mo_number_109 rfl ?_
      exact g_ireturn rfl rfl (by omega) (by omega) d_Mo_number_111 ⟨_, rfl, ⟨v, rfl, hdv, fun z => absurd z hno⟩, rfl, e2, fun x hx => (f2 x hx).trans (f1 x hx)⟩
    refine g_aload_n d_Mo_number_82 rfl ?_
    refine g_get f_Mo_61 (by assumption) rfl d_Mo_number_83 ?_
    refine g_iload_n d_Mo_number_86 rfl ?_
    refine g_iconst (v := nI 4) d_Mo_number_87 (by decide) ?_
    refine g_iadd d_Mo_number_88 ?_
    refine g_eqi (nI_add _ _) ?_
    refine g_icmpN_gt (tgt := 104) d_Mo_number_89 (by decide) (by omega) (by omega) (fun hb_89 => ?_) (fun hb_89 => ?_)
    · have hno : ¬ nb n ts b lo hi = true := fun z => by have := (hnb.mp z).2.1; omega
      rw [if_neg hno]
      refine g_aload_n d_Mo_number_104 rfl ?_
      refine g_iload_n d_Mo_number_105 rfl ?_
      refine g_callV s_Mo_84 sv_Mo_bad (by assumption) rfl (k_Mo_bad e1 b) (by omega) rfl (by omega) (by omega) rfl (Nat.le_of_ble_eq_true rfl) d_Mo_number_106 ?_
      rintro v' N' M2 ⟨rfl, rfl, e2, f2⟩
      refine g_iload d_Mo_number_109 rfl ?_
      exact g_ireturn rfl rfl (by omega) (by omega) d_Mo_number_111 ⟨_, rfl, ⟨v, rfl, hdv, fun z => absurd z hno⟩, rfl, e2, fun x hx => (f2 x hx).trans (f1 x hx)⟩
    refine g_iload d_Mo_number_92 rfl ?_
    refine g_iload_n d_Mo_number_94 rfl ?_
    refine g_icmpN_lt (tgt := 104) d_Mo_number_95 (by decide) (by omega) (by omega) (fun hb_95 => ?_) (fun hb_95 => ?_)
    · have hno : ¬ nb n ts b lo hi = true := fun z => by have := (hnb.mp z).2.2.1; omega
      rw [if_neg hno]
      refine g_aload_n d_Mo_number_104 rfl ?_
      refine g_iload_n d_Mo_number_105 rfl ?_
      refine g_callV s_Mo_84 sv_Mo_bad (by assumption) rfl (k_Mo_bad e1 b) (by omega) rfl (by omega) (by omega) rfl (Nat.le_of_ble_eq_true rfl) d_Mo_number_106 ?_
      rintro v' N' M2 ⟨rfl, rfl, e2, f2⟩
      refine g_iload d_Mo_number_109 rfl ?_
      exact g_ireturn rfl rfl (by omega) (by omega) d_Mo_number_111 ⟨_, rfl, ⟨v, rfl, hdv, fun z => absurd z hno⟩, rfl, e2, fun x hx => (f2 x hx).trans (f1 x hx)⟩
    refine g_iload d_Mo_number_98 rfl ?_
    refine g_iload_n d_Mo_number_100 rfl ?_
    refine g_icmpN_le (tgt := 109) d_Mo_number_101 (by decide) (by omega) (by omega) (fun hb_101 => ?_) (fun hb_101 => ?_)
    · have hyes : nb n ts b lo hi = true := hnb.mpr ⟨hb_79, by omega, by omega, by omega⟩
      rw [if_pos hyes]
      refine g_iload d_Mo_number_109 rfl ?_
      exact g_ireturn rfl rfl (by omega) (by omega) d_Mo_number_111 ⟨_, rfl, ⟨v, rfl, hdv, fun z => (hval z).1⟩, rfl, e1, f1⟩
    · have hno : ¬ nb n ts b lo hi = true := fun z => by have := (hnb.mp z).2.2.2; omega
      rw [if_neg hno]
      refine g_aload_n d_Mo_number_104 rfl ?_
      refine g_iload_n d_Mo_number_105 rfl ?_
      refine g_callV s_Mo_84 sv_Mo_bad (by assumption) rfl (k_Mo_bad e1 b) (by omega) rfl (by omega) (by omega) rfl (Nat.le_of_ble_eq_true rfl) d_Mo_number_106 ?_
      rintro v' N' M2 ⟨rfl, rfl, e2, f2⟩
      refine g_iload d_Mo_number_109 rfl ?_
      exact g_ireturn rfl rfl (by omega) (by omega) d_Mo_number_111 ⟨_, rfl, ⟨v, rfl, hdv, fun z => absurd z hno⟩, rfl, e2, fun x hx => (f2 x hx).trans (f1 x hx)⟩
  · intro i hi ih M1 e1 f1
    have hT1 := hT.kept (M' := M1) (f1 _ (by omega))
    have hk := bh_all (n := n) (ts := ts) (p := b) (x := 3) (j := b + i) (by omega) (by omega)
    have hk2 := (sgt_3 n ts (b + i)).mpr hk
    have hsg : sgt n ts (b + i) = ts (b + i) := if_pos (kd_3 hk).1
    have hl := sgt_lt hT1 (b + i)
    have hdv := hdl i (by omega)
    refine g_aload_n d_Mo_number_12 rfl ?_
    refine g_aload_n d_Mo_number_13 rfl ?_
    refine g_get f_Mo_61 (by assumption) rfl d_Mo_number_14 ?_
    refine g_callV s_Mo_64 sv_Mo_sign (by assumption) rfl (g_of_val (k_Mo_sign e1 hT1 (b + i) (by omega))) (by omega) rfl (by omega) (by omega) rfl (Nat.le_of_ble_eq_true rfl) d_Mo_number_17 ?_
    rintro _ _ _ ⟨rfl, rfl, rfl⟩
    refine g_callS s_Mo_81 sv_Mo_isDigit (g_of_val (k_Mo_isDigit _ hl)) (by omega) rfl (by omega) (by omega) rfl (Nat.le_of_ble_eq_true rfl) d_Mo_number_20 ?_
    rintro _ _ _ ⟨rfl, rfl, rfl⟩
    first | refine g_ifB_eq (tgt := 74) d_Mo_number_23 (by decide) (fun hb_23 => ?_) (fun hb_23 => ?_) | refine g_ifN_eq (tgt := 74) d_Mo_number_23 (by decide) (by omega) (fun hb_23 => ?_) (fun hb_23 => ?_)
    · exact absurd hk2 (of_decide_eq_false hb_23)
    refine g_aload_n d_Mo_number_26 rfl ?_
    refine g_get f_Mo_61 (by assumption) rfl d_Mo_number_27 ?_
    refine g_iload_n d_Mo_number_30 rfl ?_
    refine g_iconst (v := nI 4) d_Mo_number_31 (by decide) ?_
    refine g_iadd d_Mo_number_32 ?_
    refine g_eqi (nI_add _ _) ?_
    refine g_icmpN_ge (tgt := 56) d_Mo_number_33 (by decide) (by omega) (by omega) (fun hb_33 => ?_) (fun hb_33 => ?_)
    · refine g_sipush (v := nI 9999) d_Mo_number_56 (by decide) ?_
      refine g_eqi (z := nI (dvi ts b (i + 1))) (by unfold dvi; rw [if_pos (by omega)]) ?_
      refine g_istore d_Mo_number_59 (by decide) ?_
      refine g_aload_n d_Mo_number_61 rfl ?_
      refine g_dup d_Mo_number_62 rfl ?_
      refine g_get f_Mo_61 (by assumption) rfl d_Mo_number_63 ?_
      refine g_iconst (v := nI 1) d_Mo_number_66 (by decide) ?_
      refine g_iadd d_Mo_number_67 ?_
      refine g_eqi (nI_add _ _) ?_
      refine g_put p_Mo_61 (by assumption) (Nat.le_of_ble_eq_true rfl) rfl rfl d_Mo_number_68 ?_
      refine g_nm (fun M2 e2 f2 => ?_)
      refine g_goto (tgt := 12) d_Mo_number_71 (by decide) ?_
      exact ih M2 e2 (fun x hx => (f2 x hx).trans (f1 x hx))
    · refine g_bipush (v := nI 10) d_Mo_number_36 (by decide) ?_
      refine g_iload d_Mo_number_38 rfl ?_
      refine g_imul d_Mo_number_40 ?_
      refine g_eqi (pk_mul _ _) ?_
      refine g_aload_n d_Mo_number_41 rfl ?_
      refine g_aload_n d_Mo_number_42 rfl ?_
      refine g_get f_Mo_61 (by assumption) rfl d_Mo_number_43 ?_
      refine g_callV s_Mo_64 sv_Mo_sign (by assumption) rfl (g_of_val (k_Mo_sign e1 hT1 (b + i) (by omega))) (by omega) rfl (by omega) (by omega) rfl (Nat.le_of_ble_eq_true rfl) d_Mo_number_46 ?_
      rintro _ _ _ ⟨rfl, rfl, rfl⟩
      refine g_iadd d_Mo_number_49 ?_
      refine g_eqi (nI_add _ _) ?_
      refine g_bipush (v := nI 48) d_Mo_number_50 (by decide) ?_
      refine g_isub d_Mo_number_52 ?_
      refine g_eqi (z := nI (dvi ts b (i + 1))) (by rw [pk_sub (by omega), hsg]; unfold dvi; rw [if_neg (by omega), if_neg (by omega)]; show nI _ = nI (10 * dv ts b i + (ts (b + i) - 48)); congr 1; omega) ?_
      refine g_goto (tgt := 59) d_Mo_number_53 (by decide) ?_
      refine g_istore d_Mo_number_59 (by decide) ?_
      refine g_aload_n d_Mo_number_61 rfl ?_
      refine g_dup d_Mo_number_62 rfl ?_
      refine g_get f_Mo_61 (by assumption) rfl d_Mo_number_63 ?_
      refine g_iconst (v := nI 1) d_Mo_number_66 (by decide) ?_
      refine g_iadd d_Mo_number_67 ?_
      refine g_eqi (nI_add _ _) ?_
      refine g_put p_Mo_61 (by assumption) (Nat.le_of_ble_eq_true rfl) rfl rfl d_Mo_number_68 ?_
      refine g_nm (fun M2 e2 f2 => ?_)
      refine g_goto (tgt := 12) d_Mo_number_71 (by decide) ?_
      exact ih M2 e2 (fun x hx => (f2 x hx).trans (f1 x hx))
end MPARSE

