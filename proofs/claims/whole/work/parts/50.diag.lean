section DIAG2
variable {l : Launch} {E : gE} {N : Nat} {M : gM} {D q S m : Nat} {cn : Nat → Nat} {cs ct wy lk : Nat → Nat → Nat} {rs : Nat → Rl}
theorem o_dW.set {b f : Nat} {w : Nat → Nat} {M' : gM} (h : o_dW E M b wy) (hf : f < 5) (h1 : M' (b + f) = some (g_ia E 256 (fun s => nI (w s)))) (h2 : ∀ x, x ≠ b + f → M' x = M x) : o_dW E M' b (fun j => if j = f then w else wy j) := by
  intro j hj
  by_cases e : j = f
  · subst e
    simp only [if_pos]
    exact h1
  · simp only [if_neg e]
    exact (h2 _ (by omega)).trans (h j hj)
theorem k_Di_countWays (h : o_dB E M D q S) (hS : S = 2 ^ m) (hm : m ≤ 8) (hC : o_dC E M D cn cs ct) (hc : ∀ f, f < 4 → cut_ok rs m f (cn f) (cs f) (ct f)) (hW : o_dW E M (D + 15) wy) : Ctr l E y_Di_countWays 3 [.ref D] N M 0 0 (g_ret (fun v N' M' => v = none ∧ N' = N ∧ (∃ wy', o_dW E M' (D + 15) wy' ∧ ∀ j x, j < 5 → x < 256 → wy' j x = wyS rs m j x) ∧ ∀ x, (x < D + 15 ∨ D + 19 < x) → M' x = M x)) := by
  have hS2 : S ≤ 256 := by rw [hS]; exact Nat.pow_le_pow_right (by omega) hm
  have hS1 : 1 ≤ S := by rw [hS]; exact Nat.two_pow_pos _
  refine ctr_of [some (.ref D), none, none] (by decide) w_751 rfl rfl (Nat.le_of_ble_eq_true rfl) (fun Γ => ?_)
  refine g_iconst (v := nI 0) d_Di_countWays_0 (by decide) ?_
  refine g_istore_n d_Di_countWays_1 (by decide) ?_
  refine g_for (P := fun i => ∀ (M2 : gM) (w2 : Nat → Nat → Nat), o_dW E M2 (D + 15) w2 → (∀ j x, j < i → x < 256 → w2 j x = 0) → (∀ x, (x < D + 15 ∨ D + 19 < x) → M2 x = M x) → G _ _ _ _ _ _ _ _ _ _ _ _ 2 [some (.ref D), some (.int (nI i)), none] [] N M2 0 0) (e := 5) ?_ ?_ 0 (by omega) M wy hW (fun j x hj => by omega) (fun _ _ => rfl)
  · intro M2 w2 hW2 hz hfr
    have hB2 := h.kept (M' := M2) (fun x hx => hfr x (by omega))
    obtain ⟨g1, g2, ⟨fb, g4, g5⟩, g6⟩ := hB2
    have hw0 := hW2 0 (by omega)
    refine g_iload_n d_Di_countWays_2 rfl ?_
    refine g_iconst (v := nI 4) d_Di_countWays_3 (by decide) ?_
    refine g_icmpN_gt (tgt := 23) d_Di_countWays_4 (by decide) (by omega) (by omega) (fun hb_4 => ?_) (fun hb_4 => ?_)
    · refine g_aload_n d_Di_countWays_23 rfl ?_
      refine g_get f_Di_26 (by assumption) rfl d_Di_countWays_24 ?_
      refine g_iconst (v := nI 0) d_Di_countWays_27 (by decide) ?_
      refine g_aald 0 (by assumption) rfl rfl rfl (by omega) (by decide) (g5 0 (by omega)) d_Di_countWays_28 ?_
      refine g_aload_n d_Di_countWays_29 rfl ?_
      refine g_get f_Di_32 (by assumption) rfl d_Di_countWays_30 ?_
      refine g_iconst (v := nI 1) d_Di_countWays_33 (by decide) ?_
      refine g_isub d_Di_countWays_34 ?_
      refine g_eqi (z := nI (S - 1)) (pk_sub hS1) ?_
      refine g_iconst (v := nI 1) d_Di_countWays_35 (by decide) ?_
      refine g_iast _ (by assumption) rfl (by omega) (by decide) d_Di_countWays_36 ?_
      refine g_nm (fun M3 e3 f3 => ?_)
      rw [upd_nI] at e3
      have hW3 := hW2.set (M' := M3) (f := 0) (by omega) e3 f3
      have hfr3 : ∀ x, (x < D + 15 ∨ D + 19 < x) → M3 x = M x := fun x hx => (f3 x (by omega)).trans (hfr x hx)
      refine g_iconst (v := nI 0) d_Di_countWays_37 (by decide) ?_
      refine g_istore_n d_Di_countWays_38 (by decide) ?_
      refine g_for (P := fun f => ∀ (M4 : gM) (w4 : Nat → Nat → Nat) (y : Option Value), o_dW E M4 (D + 15) w4 → (∀ j x, j ≤ f → x < 256 → w4 j x = wyS rs m j x) → (∀ j x, f < j → j < 5 → x < 256 → w4 j x = 0) → (∀ x, (x < D + 15 ∨ D + 19 < x) → M4 x = M x) → G _ _ _ _ _ _ _ _ _ _ _ _ 39 [some (.ref D), some (.int (nI f)), y] [] N M4 0 0) (e := 4) ?_ ?_ 0 (by omega) M3 _ none hW3 ?_ ?_ hfr3
      · intro M4 w4 y hW4 ha hz4 hfr4
        refine g_iload_n d_Di_countWays_39 rfl ?_
        refine g_iconst (v := nI 4) d_Di_countWays_40 (by decide) ?_
        refine g_icmpN_ge (tgt := 81) d_Di_countWays_41 (by decide) (by omega) (by omega) (fun hb_41 => ?_) (fun hb_41 => ?_)
        · exact g_return rfl (by omega) (by omega) d_Di_countWays_81 ⟨_, rfl, rfl, rfl, ⟨w4, hW4, fun j x hj hx => ha j x (by omega) hx⟩, hfr4⟩
        · omega
      · intro f hf ih M4 w4 y hW4 ha hz4 hfr4
        refine g_iload_n d_Di_countWays_39 rfl ?_
        refine g_iconst (v := nI 4) d_Di_countWays_40 (by decide) ?_
        refine g_icmpN_ge (tgt := 81) d_Di_countWays_41 (by decide) (by omega) (by omega) (fun hb_41 => ?_) (fun hb_41 => ?_)
        · omega
        refine g_iconst (v := nI 0) d_Di_countWays_44 (by decide) ?_
        refine g_istore_n d_Di_countWays_45 (by decide) ?_
        refine g_for (P := fun s => ∀ (M5 : gM) (w5 : Nat → Nat → Nat), o_dW E M5 (D + 15) w5 → (∀ j x, j ≤ f → x < 256 → w5 j x = wyS rs m j x) → (∀ x, x < 256 → w5 (f + 1) x = sm (fun s => wyS rs m f s * cnt rs m f s x) s) → (∀ j x, f + 1 < j → j < 5 → x < 256 → w5 j x = 0) → (∀ x, (x < D + 15 ∨ D + 19 < x) → M5 x = M x) → G _ _ _ _ _ _ _ _ _ _ _ _ 46 [some (.ref D), some (.int (nI f)), some (.int (nI s))] [] N M5 0 0) (e := S) ?_ ?_ 0 (by omega) M4 w4 hW4 ha (fun x hx => hz4 (f + 1) x (by omega) (by omega) hx) (fun j x h1 h2 h3 => hz4 j x (by omega) h2 h3) hfr4
        · intro M5 w5 hW5 a5 b5 z5 fr5
          have hB5 := h.kept (M' := M5) (fun x hx => fr5 x (by omega))
          have hB5a := hB5.1
          refine g_iload_n d_Di_countWays_46 rfl ?_
          refine g_aload_n d_Di_countWays_47 rfl ?_
          refine g_get f_Di_32 (by assumption) rfl d_Di_countWays_48 ?_
          refine g_icmpN_ge (tgt := 75) d_Di_countWays_51 (by decide) (by omega) (by omega) (fun hb_51 => ?_) (fun hb_51 => ?_)
          · refine g_iinc1 d_Di_countWays_75 rfl (by decide) ?_
            refine g_goto (tgt := 39) d_Di_countWays_78 (by decide) ?_
            refine ih M5 w5 _ hW5 (fun j x hj hx => ?_) (fun j x h1 h2 h3 => z5 j x (by omega) h2 h3) fr5
            by_cases e : j = f + 1
            · rw [e, b5 x hx, hS]
              rfl
            · exact a5 j x (by omega) hx
          · omega
        · intro s hs ihs M5 w5 hW5 a5 b5 z5 fr5
          have hB5 := h.kept (M' := M5) (fun x hx => fr5 x (by omega))
          have hB5a := hB5.1
          have hC5 := hC.kept (M' := M5) (fun x _ _ => fr5 x (by omega))
          have hs2 : s < 256 := by omega
          have hwf := a5 f s (by omega) hs2
          have hlt := wyS_lt rs m f s (by omega)
          refine g_iload_n d_Di_countWays_46 rfl ?_
          refine g_aload_n d_Di_countWays_47 rfl ?_
          refine g_get f_Di_32 (by assumption) rfl d_Di_countWays_48 ?_
          refine g_icmpN_ge (tgt := 75) d_Di_countWays_51 (by decide) (by omega) (by omega) (fun hb_51 => ?_) (fun hb_51 => ?_)
          · omega
          refine g_aload_n d_Di_countWays_54 rfl ?_
          refine g_iload_n d_Di_countWays_55 rfl ?_
          refine g_iload_n d_Di_countWays_56 rfl ?_
          refine g_callV s_Di_63 sv_Di_isTable (by assumption) rfl (g_of_val (k_Di_isTable hB5 hW5 f s (by omega) hs2 (by omega))) (by omega) rfl (by omega) (by omega) rfl (Nat.le_of_ble_eq_true rfl) d_Di_countWays_57 ?_
          rintro _ _ _ ⟨rfl, rfl, rfl⟩
          first | refine g_ifB_eq (tgt := 69) d_Di_countWays_60 (by decide) (fun hb_60 => ?_) (fun hb_60 => ?_) | refine g_ifN_eq (tgt := 69) d_Di_countWays_60 (by decide) (by omega) (fun hb_60 => ?_) (fun hb_60 => ?_)
          · refine g_iinc1 d_Di_countWays_69 rfl (by decide) ?_
            refine g_goto (tgt := 46) d_Di_countWays_72 (by decide) ?_
            refine ihs M5 w5 hW5 a5 (fun x hx => ?_) z5 fr5
            have h0 := of_decide_eq_false hb_60
            rw [b5 x hx]
            show _ = sm (fun s => wyS rs m f s * cnt rs m f s x) s + wyS rs m f s * cnt rs m f s x
            rw [show wyS rs m f s = 0 by omega, Nat.zero_mul]
            rfl
          · refine g_aload_n d_Di_countWays_63 rfl ?_
            refine g_iload_n d_Di_countWays_64 rfl ?_
            refine g_iload_n d_Di_countWays_65 rfl ?_
            refine g_callV s_Di_83 sv_Di_countWaysBehind (by assumption) rfl (k_Di_countWaysBehind hB5 hC5 hW5 f s hf hs2) (by omega) rfl (by omega) (by omega) rfl (Nat.le_of_ble_eq_true rfl) d_Di_countWays_66 ?_
            rintro v' N' M6 ⟨rfl, rfl, hW6, hf6⟩
            refine g_iinc1 d_Di_countWays_69 rfl (by decide) ?_
            refine g_goto (tgt := 46) d_Di_countWays_72 (by decide) ?_
            refine ihs M6 _ hW6 (fun j x hj hx => ?_) (fun x hx => ?_) (fun j x h1 h2 h3 => ?_) (fun x hx => (hf6 x (by omega)).trans (fr5 x hx))
            · show (if j = f + 1 then _ else w5 j) x = _
              rw [if_neg (by omega)]
              exact a5 j x hj hx
            · show (if f + 1 = f + 1 then _ else w5 (f + 1)) x = _
              rw [if_pos rfl, cwb_cnt (hc f hf), b5 x hx, hwf]
              rfl
            · show (if j = f + 1 then _ else w5 j) x = _
              rw [if_neg (by omega)]
              exact z5 j x h1 h2 h3
      · intro j x hj hx
        have e0 : j = 0 := by omega
        subst e0
        show va_up (w2 0) (S - 1) 1 x = (if x = 2 ^ m - 1 then 1 else 0)
        rw [← hS]
        by_cases e : x = S - 1
        · rw [if_pos e, e, va_up_self]
        · rw [if_neg e, va_up_ne _ _ e, hz 0 x (by omega) hx]
      · intro j x h1 h2 h3
        show (if j = 0 then _ else w2 j) x = 0
        rw [if_neg (by omega)]
        exact hz j x h2 h3
    · omega
  · intro i hi ih M2 w2 hW2 hz hfr
    have hB2 := h.kept (M' := M2) (fun x hx => hfr x (by omega))
    obtain ⟨g1, g2, ⟨fb, g4, g5⟩, g6⟩ := hB2
    have hwi := hW2 i hi
    refine g_iload_n d_Di_countWays_2 rfl ?_
    refine g_iconst (v := nI 4) d_Di_countWays_3 (by decide) ?_
    refine g_icmpN_gt (tgt := 23) d_Di_countWays_4 (by decide) (by omega) (by omega) (fun hb_4 => ?_) (fun hb_4 => ?_)
    · omega
    refine g_aload_n d_Di_countWays_7 rfl ?_
    refine g_get f_Di_26 (by assumption) rfl d_Di_countWays_8 ?_
    refine g_iload_n d_Di_countWays_11 rfl ?_
    refine g_aald i (by assumption) rfl rfl rfl hi (by decide) (g5 i hi) d_Di_countWays_12 ?_
    refine g_iconst (v := nI 0) d_Di_countWays_13 (by decide) ?_
    refine g_callS s_Di_77 sv_Arr_fill (k_Arr_fill hwi (by omega) (nI 0)) (by omega) rfl (by omega) (by omega) rfl (Nat.le_of_ble_eq_true rfl) d_Di_countWays_14 ?_
    rintro v' N' M3 ⟨rfl, rfl, ⟨fd, d1, d2⟩, f3⟩
    obtain ⟨w, rfl, hw0⟩ := nI_fun (fun _ => 0) d2
    refine g_iinc1 d_Di_countWays_17 rfl (by decide) ?_
    refine g_goto (tgt := 2) d_Di_countWays_20 (by decide) ?_
    refine ih M3 _ (hW2.set hi d1 f3) (fun j x hj hx => ?_) (fun x hx => (f3 x (by omega)).trans (hfr x hx))
    by_cases e : j = i
    · subst e
      show (if j = j then w else w2 j) x = 0
      rw [if_pos rfl]
      exact hw0 x hx
    · show (if j = i then w else w2 j) x = 0
      rw [if_neg e]
      exact hz j x (by omega) hx
theorem k_Di_compile (h : o_dB E M D q S) (hR : o_list E M q m rs) (hd : q + 25 < D) (hC : o_dC E M D cn cs ct) (hW : o_dW E M (D + 15) wy) : Ctr l E y_Di_compile 4 [.ref D] N M 0 0 (g_ret (fun v N' M' => v = none ∧ N' = N ∧ o_dB E M' D q (2 ^ m) ∧ (∃ cn' cs' ct', o_dC E M' D cn' cs' ct' ∧ ∀ f, f < 4 → cut_ok rs m f (cn' f) (cs' f) (ct' f)) ∧ (∃ wy', o_dW E M' (D + 15) wy' ∧ ∀ j x, j < 5 → x < 256 → wy' j x = wyS rs m j x) ∧ ∀ x, (x < D ∨ D + 19 < x) → M' x = M x)) := by
  have h0 := h
  obtain ⟨h1, ⟨fa, h2, h3⟩, h4⟩ := h
  have hm := hR.2.1
  have hRa := hR.1
  refine ctr_of [some (.ref D), none] (by decide) w_743 rfl rfl (Nat.le_of_ble_eq_true rfl) (fun Γ => ?_)
  refine g_aload_n d_Di_compile_0 rfl ?_
  refine g_iconst (v := nI 1) d_Di_compile_1 (by decide) ?_
  refine g_aload_n d_Di_compile_2 rfl ?_
  refine g_get f_Di_9 (by assumption) rfl d_Di_compile_3 ?_
  refine g_callV s_Di_36 sv_RL_size (by assumption) rfl (g_of_val (k_RL_size hR)) (by omega) rfl (by omega) (by omega) rfl (Nat.le_of_ble_eq_true rfl) d_Di_compile_6 ?_
  rintro _ _ _ ⟨rfl, rfl, rfl⟩
  refine g_ishl d_Di_compile_9 ?_
  refine g_eqi (z := nI (2 ^ m)) (nI_bit (by omega)) ?_
  refine g_put p_Di_32 (by assumption) (Nat.le_of_ble_eq_true rfl) rfl rfl d_Di_compile_10 ?_
  refine g_nm (fun M1 e1 f1 => ?_)
  have hB1 : o_dB E M1 D q (2 ^ m) := ⟨e1, ⟨fa, (f1 _ (by omega)).trans h2, h3⟩, by obtain ⟨⟨fb, h5, h6⟩, fc, h7, h8⟩ := h4; exact ⟨⟨fb, (f1 _ (by omega)).trans h5, h6⟩, fc, (f1 _ (by omega)).trans h7, h8⟩⟩
  refine g_iconst (v := nI 0) d_Di_compile_13 (by decide) ?_
  refine g_istore_n d_Di_compile_14 (by decide) ?_
  refine g_for (P := fun i => ∀ (M2 : gM) (cn2 : Nat → Nat) (cs2 ct2 : Nat → Nat → Nat), o_dC E M2 D cn2 cs2 ct2 → (∀ f, f < i → cut_ok rs m f (cn2 f) (cs2 f) (ct2 f)) → (∀ x, (x < D + 2 ∨ D + 13 < x) → M2 x = M1 x) → G _ _ _ _ _ _ _ _ _ _ _ _ 15 [some (.ref D), some (.int (nI i))] [] N M2 0 0) (e := 4) ?_ ?_ 0 (by omega) M1 cn cs ct (hC.kept (fun x _ _ => f1 x (by omega))) (fun f hf => by omega) (fun _ _ => rfl)
  · intro M2 cn2 cs2 ct2 hC2 hok hfr
    have hB2 := hB1.kept (M' := M2) (fun x hx => hfr x (by omega))
    have hB2a := hB2.1
    have hW2 := hW.kept (M' := M2) (fun x _ _ => (hfr x (by omega)).trans (f1 x (by omega)))
    refine g_iload_n d_Di_compile_15 rfl ?_
    refine g_iconst (v := nI 4) d_Di_compile_16 (by decide) ?_
    refine g_icmpN_ge (tgt := 62) d_Di_compile_17 (by decide) (by omega) (by omega) (fun hb_17 => ?_) (fun hb_17 => ?_)
    · refine g_aload_n d_Di_compile_62 rfl ?_
      refine g_callV s_Di_53 sv_Di_countWays (by assumption) rfl (k_Di_countWays hB2 rfl hm hC2 hok hW2) (by omega) rfl (by omega) (by omega) rfl (Nat.le_of_ble_eq_true rfl) d_Di_compile_63 ?_
      rintro v' N' M3 ⟨rfl, rfl, hW3, hf3⟩
      exact g_return rfl (by omega) (by omega) d_Di_compile_66 ⟨_, rfl, rfl, rfl, hB2.kept (fun x hx => hf3 x (by omega)), ⟨cn2, cs2, ct2, hC2.kept (fun x _ _ => hf3 x (by omega)), hok⟩, hW3, fun x hx => (hf3 x (by omega)).trans ((hfr x (by omega)).trans (f1 x (by omega)))⟩
    · omega
  · intro i hi ih M2 cn2 cs2 ct2 hC2 hok hfr
    have hB2 := hB1.kept (M' := M2) (fun x hx => hfr x (by omega))
    obtain ⟨g1, ⟨fa2, g2, g3⟩, g4⟩ := hB2
    have hR2 := hR.kept (M' := M2) (fun x _ _ => (hfr x (by omega)).trans (f1 x (by omega)))
    have hcu := hC2 i hi
    have hcua := hcu.1
    refine g_iload_n d_Di_compile_15 rfl ?_
    refine g_iconst (v := nI 4) d_Di_compile_16 (by decide) ?_
    refine g_icmpN_ge (tgt := 62) d_Di_compile_17 (by decide) (by omega) (by omega) (fun hb_17 => ?_) (fun hb_17 => ?_)
    · omega
    refine g_aload_n d_Di_compile_20 rfl ?_
    refine g_get f_Di_17 (by assumption) rfl d_Di_compile_21 ?_
    refine g_iload_n d_Di_compile_24 rfl ?_
    refine g_aald i (by assumption) rfl rfl rfl hi (by decide) (g3 i hi) d_Di_compile_25 ?_
    refine g_callV s_Di_42 sv_Cu_clear (by assumption) rfl (k_Cu_clear hcu) (by omega) rfl (by omega) (by omega) rfl (Nat.le_of_ble_eq_true rfl) d_Di_compile_26 ?_
    rintro v' N' M3 ⟨rfl, rfl, hc3, hf3⟩
    have hc3a := hc3.1
    have g1' := (hf3 D (by omega) (by omega)).trans g1
    have g2' := (hf3 (D + 1) (by omega) (by omega)).trans g2
    have hR3 := hR2.kept (M' := M3) (fun x _ _ => hf3 x (by omega) (by omega))
    refine g_aload_n d_Di_compile_29 rfl ?_
    refine g_get f_Di_17 (by assumption) rfl d_Di_compile_30 ?_
    refine g_iload_n d_Di_compile_33 rfl ?_
    refine g_aald i (by assumption) rfl rfl rfl hi (by decide) (g3 i hi) d_Di_compile_34 ?_
    refine g_aload_n d_Di_compile_35 rfl ?_
    refine g_get f_Di_9 (by assumption) rfl d_Di_compile_36 ?_
    refine g_callV s_Di_45 sv_Cu_cutBy (by assumption) rfl (k_Cu_cutBy hc3 hR3 (by omega) (by omega)) (by omega) rfl (by omega) (by omega) rfl (Nat.le_of_ble_eq_true rfl) d_Di_compile_39 ?_
    rintro v' N' M4 ⟨rfl, rfl, hc4, hf4⟩
    have hc4a := hc4.1
    have g1'' := (hf4 D (by omega) (by omega)).trans g1'
    have g2'' := (hf4 (D + 1) (by omega) (by omega)).trans g2'
    have hR4 := hR3.kept (M' := M4) (fun x _ _ => hf4 x (by omega) (by omega))
    refine g_aload_n d_Di_compile_42 rfl ?_
    refine g_get f_Di_17 (by assumption) rfl d_Di_compile_43 ?_
    refine g_iload_n d_Di_compile_46 rfl ?_
    refine g_aald i (by assumption) rfl rfl rfl hi (by decide) (g3 i hi) d_Di_compile_47 ?_
    refine g_aload_n d_Di_compile_48 rfl ?_
    refine g_get f_Di_9 (by assumption) rfl d_Di_compile_49 ?_
    refine g_iconst (v := nI 0) d_Di_compile_52 (by decide) ?_
    refine g_callV s_Di_49 sv_Cu_mark (by assumption) rfl (k_Cu_mark hc4 hR4 0 (by omega) (by omega)) (by omega) rfl (by omega) (by omega) rfl (Nat.le_of_ble_eq_true rfl) d_Di_compile_53 ?_
    rintro v' N' M5 ⟨rfl, rfl, ⟨ss5, hc5, hs5⟩, hf5⟩
    refine g_iinc1 d_Di_compile_56 rfl (by decide) ?_
    refine g_goto (tgt := 15) d_Di_compile_59 (by decide) ?_
    refine ih M5 (va_up cn2 i (cfn rs i (1, cs2 i) m).1) (va_up cs2 i (cfn rs i (1, cs2 i) m).2) (va_up ct2 i ss5) (fun f hf => ?_) (fun f hf => ?_) (fun x hx => (hf5 x (by omega)).trans ((hf4 x (by omega) (by omega)).trans ((hf3 x (by omega) (by omega)).trans (hfr x hx))))
    · by_cases e : f = i
      · subst e
        rw [va_up_self, va_up_self, va_up_self]
        exact hc5
      · rw [va_up_ne _ _ e, va_up_ne _ _ e, va_up_ne _ _ e]
        exact (hC2 f hf).kept (fun x _ _ => (hf5 x (by omega)).trans ((hf4 x (by omega) (by omega)).trans (hf3 x (by omega) (by omega))))
    · by_cases e : f = i
      · subst e
        rw [va_up_self, va_up_self, va_up_self]
        have hro := hc5.2.2.2.2.1
        refine ⟨hro, fun r hr x x1 x2 => ?_⟩
        rw [hs5 r hr, Nat.zero_or, Nat.pow_zero, Nat.mul_one]
        exact ags_row hro hr x1 x2 m (fun k hk => has_cfnN m k hk)
      · rw [va_up_ne _ _ e, va_up_ne _ _ e, va_up_ne _ _ e]
        exact hok f (by omega)
end DIAG2

