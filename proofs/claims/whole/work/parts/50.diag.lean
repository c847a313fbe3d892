section GMMN
variable {l : Launch} {E : gE} {y : MethodName} {cc : ByteArray} {nL : Nat} {ret : Option FieldType} {tb : List ExceptionTableEntry} {d : Nat} {Q : Outcome → Nat → gM → Prop} {mc ms : Nat} {Γ : gT} {pc : Nat} {L : List (Option Value)} {st : List Value} {N : Nat} {M : gM} {k n : Nat}
theorem g_mmN {A nn mm : Nat} (kk : ∀ M' : gM, M' A = some (g_qa E 7 nn (fun j => if j < nn then some (A + 1 + j) else none)) → (∀ j, j < nn → M' (A + 1 + j) = some (g_ia E mm (fun _ => 0))) → (∀ q, (q < A ∨ A + nn < q) → M' q = M q) → G l E y cc nL ret tb d Q mc ms Γ pc L st N M' k n) : G l E y cc nL ret tb d Q mc ms Γ pc L st N (g_mm E A nn mm M) k n :=
  kk _ (if_pos rfl) (fun j hj => by
    unfold g_mm
    rw [if_neg (by omega), if_pos (by omega)]) (fun q hq => by
    unfold g_mm
    rw [if_neg (by omega), if_neg (by omega)])
end GMMN
section DIAG2
variable {l : Launch} {E : gE} {N : Nat} {M : gM} {D q S m : Nat} {cn : Nat → Nat} {cs ct wy lk : Nat → Nat → Nat} {rs : Nat → Rl}
theorem o_dW.set {b f : Nat} {w : Nat → Nat} {M' : gM} (h : o_dW E M b wy) (hf : f < 5) (h1 : M' (b + f) = some (g_ia E 256 (fun s => nI (w s)))) (h2 : ∀ x, x ≠ b + f → M' x = M x) : o_dW E M' b (fun j => if j = f then w else wy j) := by
  intro j hj
  by_cases e : j = f
  · subst e
    simp only [if_pos]
    exact h1
  · simp only [if_neg e]
    exact (h2 _ (by omega)).trans (h j hj)
theorem k_Di_countWays (h : o_dB E M D q S) (hS : S = 2 ^ m) (hm : m ≤ 8) (hC : o_dC E M D cn cs ct) (hc : ∀ f, f < 4 → cut_ok rs m f (cn f) (cs f) (ct f)) (hW : o_dW E M (D + 15) wy) : Ctr l E y_Di_countWays 3 [.ref D] N M 0 0 (g_ret (fun v N' M' => v = none ∧ N' = N ∧ (∃ wy', o_dW E M' (D + 15) wy' ∧ ∀ j x, j < 5 → x < 256 → wy' j x = wyS rs m j x) ∧ ∀ x, (x < D + 15 ∨ D + 19 < x) → M' x = M x)) := by
  have hS2 : S ≤ 256 := by rw [hS]; exact Nat.pow_le_pow_right (by omega) hm
  have hS1 : 1 ≤ S := by rw [hS]; exact Nat.two_pow_pos _
  refine ctr_of [some (.ref D), none, none] (by decide) w_751 rfl rfl (Nat.le_of_ble_eq_true rfl) (fun Γ => ?_)
  refine g_iconst (v := nI 0) d_Di_countWays_0 (by decide) ?_
  refine g_istore_n d_Di_countWays_1 (by decide) ?_
  refine g_for (P := fun i => ∀ (M2 : gM) (w2 : Nat → Nat → Nat), o_dW E M2 (D + 15) w2 → (∀ j x, j < i → x < 256 → w2 j x = 0) → (∀ x, (x < D + 15 ∨ D + 19 < x) → M2 x = M x) → G _ _ _ _ _ _ _ _ _ _ _ _ 2 [some (.ref D), some (.int (nI i)), none] [] N M2 0 0) (e := 5) ?_ ?_ 0 (by omega) M wy hW (fun j x hj => by omega) (fun _ _ => rfl)
  · intro M2 w2 hW2 hz hfr
    have hB2 := h.kept (M' := M2) (fun x hx => hfr x (by omega))
    obtain ⟨g1, g2, ⟨fb, g4, g5⟩, g6⟩ := hB2
    have hw0 := hW2 0 (by omega)
    refine g_iload_n d_Di_countWays_2 rfl ?_
    refine g_iconst (v := nI 4) d_Di_countWays_3 (by decide) ?_
    refine g_icmpN_gt (tgt := 23) d_Di_countWays_4 (by decide) (by omega) (by omega) (fun hb_4 => ?_) (fun hb_4 => ?_)
    · refine g_aload_n d_Di_countWays_23 rfl ?_
      refine g_get f_Di_26 (by assumption) rfl d_Di_countWays_24 ?_
      refine g_iconst (v := nI 0) d_Di_countWays_27 (by decide) ?_
      refine g_aald 0 (by assumption) rfl rfl rfl (by omega) (by decide) (g5 0 (by omega)) d_Di_countWays_28 ?_
      refine g_aload_n d_Di_countWays_29 rfl ?_
      refine g_get f_Di_32 (by assumption) rfl d_Di_countWays_30 ?_
      refine g_iconst (v := nI 1) d_Di_countWays_33 (by decide) ?_
      refine g_isub d_Di_countWays_34 ?_
      refine g_eqi (z := nI (S - 1)) (pk_sub hS1) ?_
      refine g_iconst (v := nI 1) d_Di_countWays_35 (by decide) ?_
      refine g_iast _ (by assumption) rfl (by omega) (by decide) d_Di_countWays_36 ?_
      refine g_nm (fun M3 e3 f3 => ?_)
      rw [upd_nI] at e3
      have hW3 := hW2.set (M' := M3) (f := 0) (by omega) e3 f3
      have hfr3 : ∀ x, (x < D + 15 ∨ D + 19 < x) → M3 x = M x := fun x hx => (f3 x (by omega)).trans (hfr x hx)
      refine g_iconst (v := nI 0) d_Di_countWays_37 (by decide) ?_
      refine g_istore_n d_Di_countWays_38 (by decide) ?_
      refine g_for (P := fun f => ∀ (M4 : gM) (w4 : Nat → Nat → Nat) (y : Option Value), o_dW E M4 (D + 15) w4 → (∀ j x, j ≤ f → x < 256 → w4 j x = wyS rs m j x) → (∀ j x, f < j → j < 5 → x < 256 → w4 j x = 0) → (∀ x, (x < D + 15 ∨ D + 19 < x) → M4 x = M x) → G _ _ _ _ _ _ _ _ _ _ _ _ 39 [some (.ref D), some (.int (nI f)), y] [] N M4 0 0) (e := 4) ?_ ?_ 0 (by omega) M3 _ none hW3 ?_ ?_ hfr3
      · intro M4 w4 y hW4 ha hz4 hfr4
        refine g_iload_n d_Di_countWays_39 rfl ?_
        refine g_iconst (v := nI 4) d_Di_countWays_40 (by decide) ?_
        refine g_icmpN_ge (tgt := 81) d_Di_countWays_41 (by decide) (by omega) (by omega) (fun hb_41 => ?_) (fun hb_41 => ?_)
        · exact g_return rfl (by omega) (by omega) d_Di_countWays_81 ⟨_, rfl, rfl, rfl, ⟨w4, hW4, fun j x hj hx => ha j x (by omega) hx⟩, hfr4⟩
        · omega
      · intro f hf ih M4 w4 y hW4 ha hz4 hfr4
        refine g_iload_n d_Di_countWays_39 rfl ?_
        refine g_iconst (v := nI 4) d_Di_countWays_40 (by decide) ?_
        refine g_icmpN_ge (tgt := 81) d_Di_countWays_41 (by decide) (by omega) (by omega) (fun hb_41 => ?_) (fun hb_41 => ?_)
        · omega
        refine g_iconst (v := nI 0) d_Di_countWays_44 (by decide) ?_
        refine g_istore_n d_Di_countWays_45 (by decide) ?_
        refine g_for (P := fun s => ∀ (M5 : gM) (w5 : Nat → Nat → Nat), o_dW E M5 (D + 15) w5 → (∀ j x, j ≤ f → x < 256 → w5 j x = wyS rs m j x) → (∀ x, x < 256 → w5 (f + 1) x = sm (fun s => wyS rs m f s * cnt rs m f s x) s) → (∀ j x, f + 1 < j → j < 5 → x < 256 → w5 j x = 0) → (∀ x, (x < D + 15 ∨ D + 19 < x) → M5 x = M x) → G _ _ _ _ _ _ _ _ _ _ _ _ 46 [some (.ref D), some (.int (nI f)), some (.int (nI s))] [] N M5 0 0) (e := S) ?_ ?_ 0 (by omega) M4 w4 hW4 ha (fun x hx => hz4 (f + 1) x (by omega) (by omega) hx) (fun j x h1 h2 h3 => hz4 j x (by omega) h2 h3) hfr4
        · intro M5 w5 hW5 a5 b5 z5 fr5
          have hB5 := h.kept (M' := M5) (fun x hx => fr5 x (by omega))
          have hB5a := hB5.1
          refine g_iload_n d_Di_countWays_46 rfl ?_
          refine g_aload_n d_Di_countWays_47 rfl ?_
          refine g_get f_Di_32 (by assumption) rfl d_Di_countWays_48 ?_
          refine g_icmpN_ge (tgt := 75) d_Di_countWays_51 (by decide) (by omega) (by omega) (fun hb_51 => ?_) (fun hb_51 => ?_)
          · refine g_iinc1 d_Di_countWays_75 rfl (by decide) ?_
            refine g_goto (tgt := 39) d_Di_countWays_78 (by decide) ?_
            refine ih M5 w5 _ hW5 (fun j x hj hx => ?_) (fun j x h1 h2 h3 => z5 j x (by omega) h2 h3) fr5
            by_cases e : j = f + 1
            · rw [e, b5 x hx, hS]
              rfl
            · exact a5 j x (by omega) hx
          · omega
        · intro s hs ihs M5 w5 hW5 a5 b5 z5 fr5
          have hB5 := h.kept (M' := M5) (fun x hx => fr5 x (by omega))
          have hB5a := hB5.1
          have hC5 := hC.kept (M' := M5) (fun x _ _ => fr5 x (by omega))
          have hs2 : s < 256 := by omega
          have hwf := a5 f s (by omega) hs2
          have hlt := wyS_lt rs m f s (by omega)
          refine g_iload_n d_Di_countWays_46 rfl ?_
          refine g_aload_n d_Di_countWays_47 rfl ?_
          refine g_get f_Di_32 (by assumption) rfl d_Di_countWays_48 ?_
          refine g_icmpN_ge (tgt := 75) d_Di_countWays_51 (by decide) (by omega) (by omega) (fun hb_51 => ?_) (fun hb_51 => ?_)
          · omega
          refine g_aload_n d_Di_countWays_54 rfl ?_
          refine g_iload_n d_Di_countWays_55 rfl ?_
          refine g_iload_n d_Di_countWays_56 rfl ?_
          refine g_callV s_Di_63 sv_Di_isTable (by assumption) rfl (g_of_val (k_Di_isTable hB5 hW5 f s (by omega) hs2 (by omega))) (by omega) rfl (by omega) (by omega) rfl (Nat.le_of_ble_eq_true rfl) d_Di_countWays_57 ?_
          rintro _ _ _ ⟨rfl, rfl, rfl⟩
          first | refine g_ifB_eq (tgt := 69) d_Di_countWays_60 (by decide) (fun hb_60 => ?_) (fun hb_60 => ?_) | refine g_ifN_eq (tgt := 69) d_Di_countWays_60 (by decide) (by omega) (fun hb_60 => ?_) (fun hb_60 => ?_)
          · refine g_iinc1 d_Di_countWays_69 rfl (by decide) ?_
            refine g_goto (tgt := 46) d_Di_countWays_72 (by decide) ?_
            refine ihs M5 w5 hW5 a5 (fun x hx => ?_) z5 fr5
            have h0 := of_decide_eq_false hb_60
            rw [b5 x hx]
            show _ = sm (fun s => wyS rs m f s * cnt rs m f s x) s + wyS rs m f s * cnt rs m f s x
            rw [show wyS rs m f s = 0 by omega, Nat.zero_mul]
            rfl
          · refine g_aload_n d_Di_countWays_63 rfl ?_
            refine g_iload_n d_Di_countWays_64 rfl ?_
            refine g_iload_n d_Di_countWays_65 rfl ?_
            refine g_callV s_Di_83 sv_Di_countWaysBehind (by assumption) rfl (k_Di_countWaysBehind hB5 hC5 hW5 f s hf hs2) (by omega) rfl (by omega) (by omega) rfl (Nat.le_of_ble_eq_true rfl) d_Di_countWays_66 ?_
            rintro v' N' M6 ⟨rfl, rfl, hW6, hf6⟩
            refine g_iinc1 d_Di_countWays_69 rfl (by decide) ?_
            refine g_goto (tgt := 46) d_Di_countWays_72 (by decide) ?_
            refine ihs M6 _ hW6 (fun j x hj hx => ?_) (fun x hx => ?_) (fun j x h1 h2 h3 => ?_) (fun x hx => (hf6 x (by omega)).trans (fr5 x hx))
            · show (if j = f + 1 then _ else w5 j) x = _
              rw [if_neg (by omega)]
              exact a5 j x hj hx
            · show (if f + 1 = f + 1 then _ else w5 (f + 1)) x = _
              rw [if_pos rfl, cwb_cnt (hc f hf), b5 x hx, hwf]
              rfl
            · show (if j = f + 1 then _ else w5 j) x = _
              rw [if_neg (by omega)]
              exact z5 j x h1 h2 h3
      · intro j x hj hx
        have e0 : j = 0 := by omega
        subst e0
        show va_up (w2 0) (S - 1) 1 x = (if x = 2 ^ m - 1 then 1 else 0)
        rw [← hS]
        by_cases e : x = S - 1
        · rw [if_pos e, e, va_up_self]
        · rw [if_neg e, va_up_ne _ _ e, hz 0 x (by omega) hx]
      · intro j x h1 h2 h3
        show (if j = 0 then _ else w2 j) x = 0
        rw [if_neg (by omega)]
        exact hz j x h2 h3
    · omega
  · intro i hi ih M2 w2 hW2 hz hfr
    have hB2 := h.kept (M' := M2) (fun x hx => hfr x (by omega))
    obtain ⟨g1, g2, ⟨fb, g4, g5⟩, g6⟩ := hB2
    have hwi := hW2 i hi
    refine g_iload_n d_Di_countWays_2 rfl ?_
    refine g_iconst (v := nI 4) d_Di_countWays_3 (by decide) ?_
    refine g_icmpN_gt (tgt := 23) d_Di_countWays_4 (by decide) (by omega) (by omega) (fun hb_4 => ?_) (fun hb_4 => ?_)
    · omega
    refine g_aload_n d_Di_countWays_7 rfl ?_
    refine g_get f_Di_26 (by assumption) rfl d_Di_countWays_8 ?_
    refine g_iload_n d_Di_countWays_11 rfl ?_
    refine g_aald i (by assumption) rfl rfl rfl hi (by decide) (g5 i hi) d_Di_countWays_12 ?_
    refine g_iconst (v := nI 0) d_Di_countWays_13 (by decide) ?_
    refine g_callS s_Di_77 sv_Arr_fill (k_Arr_fill hwi (by omega) (nI 0)) (by omega) rfl (by omega) (by omega) rfl (Nat.le_of_ble_eq_true rfl) d_Di_countWays_14 ?_
    rintro v' N' M3 ⟨rfl, rfl, ⟨fd, d1, d2⟩, f3⟩
    obtain ⟨w, rfl, hw0⟩ := nI_fun (fun _ => 0) d2
    refine g_iinc1 d_Di_countWays_17 rfl (by decide) ?_
    refine g_goto (tgt := 2) d_Di_countWays_20 (by decide) ?_
    refine ih M3 _ (hW2.set hi d1 f3) (fun j x hj hx => ?_) (fun x hx => (f3 x (by omega)).trans (hfr x hx))
    by_cases e : j = i
    · subst e
      show (if j = j then w else w2 j) x = 0
      rw [if_pos rfl]
      exact hw0 x hx
    · show (if j = i then w else w2 j) x = 0
      rw [if_neg e]
      exact hz j x (by omega) hx
theorem k_Di_compile (h : o_dB E M D q S) (hR : o_list E M q m rs) (hd : q + 25 < D) (hC : o_dC E M D cn cs ct) (hW : o_dW E M (D + 15) wy) : Ctr l E y_Di_compile 4 [.ref D] N M 0 0 (g_ret (fun v N' M' => v = none ∧ N' = N ∧ o_dB E M' D q (2 ^ m) ∧ (∃ cn' cs' ct', o_dC E M' D cn' cs' ct' ∧ ∀ f, f < 4 → cut_ok rs m f (cn' f) (cs' f) (ct' f)) ∧ (∃ wy', o_dW E M' (D + 15) wy' ∧ ∀ j x, j < 5 → x < 256 → wy' j x = wyS rs m j x) ∧ ∀ x, (x < D ∨ D + 19 < x) → M' x = M x)) := by
  have h0 := h
  obtain ⟨h1, ⟨fa, h2, h3⟩, h4⟩ := h
  have hm := hR.2.1
  have hRa := hR.1
  refine ctr_of [some (.ref D), none] (by decide) w_743 rfl rfl (Nat.le_of_ble_eq_true rfl) (fun Γ => ?_)
  refine g_aload_n d_Di_compile_0 rfl ?_
  refine g_iconst (v := nI 1) d_Di_compile_1 (by decide) ?_
  refine g_aload_n d_Di_compile_2 rfl ?_
  refine g_get f_Di_9 (by assumption) rfl d_Di_compile_3 ?_
  refine g_callV s_Di_36 sv_RL_size (by assumption) rfl (g_of_val (k_RL_size hR)) (by omega) rfl (by omega) (by omega) rfl (Nat.le_of_ble_eq_true rfl) d_Di_compile_6 ?_
  rintro _ _ _ ⟨rfl, rfl, rfl⟩
  refine g_ishl d_Di_compile_9 ?_
  refine g_eqi (z := nI (2 ^ m)) (nI_bit (by omega)) ?_
  refine g_put p_Di_32 (by assumption) (Nat.le_of_ble_eq_true rfl) rfl rfl d_Di_compile_10 ?_
  refine g_nm (fun M1 e1 f1 => ?_)
  have hB1 : o_dB E M1 D q (2 ^ m) := ⟨e1, ⟨fa, (f1 _ (by omega)).trans h2, h3⟩, by obtain ⟨⟨fb, h5, h6⟩, fc, h7, h8⟩ := h4; exact ⟨⟨fb, (f1 _ (by omega)).trans h5, h6⟩, fc, (f1 _ (by omega)).trans h7, h8⟩⟩
  refine g_iconst (v := nI 0) d_Di_compile_13 (by decide) ?_
  refine g_istore_n d_Di_compile_14 (by decide) ?_
  refine g_for (P := fun i => ∀ (M2 : gM) (cn2 : Nat → Nat) (cs2 ct2 : Nat → Nat → Nat), o_dC E M2 D cn2 cs2 ct2 → (∀ f, f < i → cut_ok rs m f (cn2 f) (cs2 f) (ct2 f)) → (∀ x, (x < D + 2 ∨ D + 13 < x) → M2 x = M1 x) → G _ _ _ _ _ _ _ _ _ _ _ _ 15 [some (.ref D), some (.int (nI i))] [] N M2 0 0) (e := 4) ?_ ?_ 0 (by omega) M1 cn cs ct (hC.kept (fun x _ _ => f1 x (by omega))) (fun f hf => by omega) (fun _ _ => rfl)
  · intro M2 cn2 cs2 ct2 hC2 hok hfr
    have hB2 := hB1.kept (M' := M2) (fun x hx => hfr x (by omega))
    have hB2a := hB2.1
    have hW2 := hW.kept (M' := M2) (fun x _ _ => (hfr x (by omega)).trans (f1 x (by omega)))
    refine g_iload_n d_Di_compile_15 rfl ?_
    refine g_iconst (v := nI 4) d_Di_compile_16 (by decide) ?_
    refine g_icmpN_ge (tgt := 62) d_Di_compile_17 (by decide) (by omega) (by omega) (fun hb_17 => ?_) (fun hb_17 => ?_)
    · refine g_aload_n d_Di_compile_62 rfl ?_
      refine g_callV s_Di_53 sv_Di_countWays (by assumption) rfl (k_Di_countWays hB2 rfl hm hC2 hok hW2) (by omega) rfl (by omega) (by omega) rfl (Nat.le_of_ble_eq_true rfl) d_Di_compile_63 ?_
      rintro v' N' M3 ⟨rfl, rfl, hW3, hf3⟩
      exact g_return rfl (by omega) (by omega) d_Di_compile_66 ⟨_, rfl, rfl, rfl, hB2.kept (fun x hx => hf3 x (by omega)), ⟨cn2, cs2, ct2, hC2.kept (fun x _ _ => hf3 x (by omega)), hok⟩, hW3, fun x hx => (hf3 x (by omega)).trans ((hfr x (by omega)).trans (f1 x (by omega)))⟩
    · omega
  · intro i hi ih M2 cn2 cs2 ct2 hC2 hok hfr
    have hB2 := hB1.kept (M' := M2) (fun x hx => hfr x (by omega))
    obtain ⟨g1, ⟨fa2, g2, g3⟩, g4⟩ := hB2
    have hR2 := hR.kept (M' := M2) (fun x _ _ => (hfr x (by omega)).trans (f1 x (by omega)))
    have hcu := hC2 i hi
    have hcua := hcu.1
    refine g_iload_n d_Di_compile_15 rfl ?_
    refine g_iconst (v := nI 4) d_Di_compile_16 (by decide) ?_
    refine g_icmpN_ge (tgt := 62) d_Di_compile_17 (by decide) (by omega) (by omega) (fun hb_17 => ?_) (fun hb_17 => ?_)
    · omega
    refine g_aload_n d_Di_compile_20 rfl ?_
    refine g_get f_Di_17 (by assumption) rfl d_Di_compile_21 ?_
    refine g_iload_n d_Di_compile_24 rfl ?_
    refine g_aald i (by assumption) rfl rfl rfl hi (by decide) (g3 i hi) d_Di_compile_25 ?_
    refine g_callV s_Di_42 sv_Cu_clear (by assumption) rfl (k_Cu_clear hcu) (by omega) rfl (by omega) (by omega) rfl (Nat.le_of_ble_eq_true rfl) d_Di_compile_26 ?_
    rintro v' N' M3 ⟨rfl, rfl, hc3, hf3⟩
    have hc3a := hc3.1
    have g1' := (hf3 D (by omega) (by omega)).trans g1
    have g2' := (hf3 (D + 1) (by omega) (by omega)).trans g2
    have hR3 := hR2.kept (M' := M3) (fun x _ _ => hf3 x (by omega) (by omega))
    refine g_aload_n d_Di_compile_29 rfl ?_
    refine g_get f_Di_17 (by assumption) rfl d_Di_compile_30 ?_
    refine g_iload_n d_Di_compile_33 rfl ?_
    refine g_aald i (by assumption) rfl rfl rfl hi (by decide) (g3 i hi) d_Di_compile_34 ?_
    refine g_aload_n d_Di_compile_35 rfl ?_
    refine g_get f_Di_9 (by assumption) rfl d_Di_compile_36 ?_
    refine g_callV s_Di_45 sv_Cu_cutBy (by assumption) rfl (k_Cu_cutBy hc3 hR3 (by omega) (by omega)) (by omega) rfl (by omega) (by omega) rfl (Nat.le_of_ble_eq_true rfl) d_Di_compile_39 ?_
    rintro v' N' M4 ⟨rfl, rfl, hc4, hf4⟩
    have hc4a := hc4.1
    have g1'' := (hf4 D (by omega) (by omega)).trans g1'
    have g2'' := (hf4 (D + 1) (by omega) (by omega)).trans g2'
    have hR4 := hR3.kept (M' := M4) (fun x _ _ => hf4 x (by omega) (by omega))
    refine g_aload_n d_Di_compile_42 rfl ?_
    refine g_get f_Di_17 (by assumption) rfl d_Di_compile_43 ?_
    refine g_iload_n d_Di_compile_46 rfl ?_
    refine g_aald i (by assumption) rfl rfl rfl hi (by decide) (g3 i hi) d_Di_compile_47 ?_
    refine g_aload_n d_Di_compile_48 rfl ?_
    refine g_get f_Di_9 (by assumption) rfl d_Di_compile_49 ?_
    refine g_iconst (v := nI 0) d_Di_compile_52 (by decide) ?_
    refine g_callV s_Di_49 sv_Cu_mark (by assumption) rfl (k_Cu_mark hc4 hR4 0 (by omega) (by omega)) (by omega) rfl (by omega) (by omega) rfl (Nat.le_of_ble_eq_true rfl) d_Di_compile_53 ?_
    rintro v' N' M5 ⟨rfl, rfl, ⟨ss5, hc5, hs5⟩, hf5⟩
    refine g_iinc1 d_Di_compile_56 rfl (by decide) ?_
    refine g_goto (tgt := 15) d_Di_compile_59 (by decide) ?_
    refine ih M5 (va_up cn2 i (cfn rs i (1, cs2 i) m).1) (va_up cs2 i (cfn rs i (1, cs2 i) m).2) (va_up ct2 i ss5) (fun f hf => ?_) (fun f hf => ?_) (fun x hx => (hf5 x (by omega)).trans ((hf4 x (by omega) (by omega)).trans ((hf3 x (by omega) (by omega)).trans (hfr x hx))))
    · by_cases e : f = i
      · subst e
        rw [va_up_self, va_up_self, va_up_self]
        exact hc5
      · rw [va_up_ne _ _ e, va_up_ne _ _ e, va_up_ne _ _ e]
        exact (hC2 f hf).kept (fun x _ _ => (hf5 x (by omega)).trans ((hf4 x (by omega) (by omega)).trans (hf3 x (by omega) (by omega))))
    · by_cases e : f = i
      · subst e
        rw [va_up_self, va_up_self, va_up_self]
        have hro := hc5.2.2.2.2.1
        refine ⟨hro, fun r hr x x1 x2 => ?_⟩
        rw [hs5 r hr, Nat.zero_or, Nat.pow_zero, Nat.mul_one]
        exact ags_row hro hr x1 x2 m (fun k hk => has_cfnN m k hk)
      · rw [va_up_ne _ _ e, va_up_ne _ _ e, va_up_ne _ _ e]
        exact hok f (by omega)
def fvk (k : Nat) : Int32 := if k < 4 then nI (3 - k) else -1
theorem fvk_step : ∀ k, k < 4 → nI (3 - k) + Int32.ofInt (-1) = fvk (k + 1) := by decide
theorem flk_le (wyf lkf lk1 ct : Nat → Nat) (n s : Nat) : flk wyf lkf lk1 ct n s ≤ s := fi_le _ _
theorem k_Di_uniteTables (h : o_dB E M D q S) (hR : o_list E M q m rs) (hS : S = 2 ^ m) (hd : q + 25 < D) (hC : o_dC E M D cn cs ct) (hW : o_dW E M (D + 15) wy) (hL : o_dW E M (D + 21) lk) (hwy : ∀ f x, f < 4 → x < 256 → wy f x < 2 ^ 31) (hlk : ∀ j x, j < 5 → x < 256 → lk j x < 256) : Ctr l E y_Di_uniteTables 4 [.ref D] N M 0 0 (g_ret (fun v N' M' => v = none ∧ N' = N ∧ (∃ lk', o_dW E M' (D + 21) lk' ∧ (∀ j x, j < 5 → x < 256 → lk' j x < 256) ∧ (∀ s, s < S → lk' 4 s = jds rs s) ∧ ∀ f, f < 4 → lk' f = lkr (wy f) (lk' (f + 1)) (ct f) (cn f) S (lk f)) ∧ ∀ x, (x < D + 21 ∨ D + 25 < x) → M' x = M x)) := by
  have hm := hR.2.1
  have hS2 : S ≤ 256 := by rw [hS]; exact Nat.pow_le_pow_right (by omega) hm
  have hB0 := h
  obtain ⟨h1, h2, h4, fc, h6, h7⟩ := h
  refine ctr_of [some (.ref D), none, none] (by decide) w_783 rfl rfl (Nat.le_of_ble_eq_true rfl) (fun Γ => ?_)
  refine g_iconst (v := nI 0) d_Di_uniteTables_0 (by decide) ?_
  refine g_istore_n d_Di_uniteTables_1 (by decide) ?_
  refine g_for (P := fun i => ∀ (M2 : gM) (w : Nat → Nat), M2 (D + 21 + 4) = some (g_ia E 256 (fun s => nI (w s))) → (∀ s, s < i → w s = jds rs s) → (∀ x, x < 256 → w x < 256) → (∀ x, x ≠ D + 21 + 4 → M2 x = M x) → G _ _ _ _ _ _ _ _ _ _ _ _ 2 [some (.ref D), some (.int (nI i)), none] [] N M2 0 0) (e := S) ?_ ?_ 0 (by omega) M (lk 4) (hL 4 (by omega)) (fun s hs => by omega) (fun x hx => hlk 4 x (by omega) hx) (fun _ _ => rfl)
  · intro M2 w4 e2 hw4 hb4 hfr2
    have h1' := (hfr2 D (by omega)).trans h1
    refine g_iload_n d_Di_uniteTables_2 rfl ?_
    refine g_aload_n d_Di_uniteTables_3 rfl ?_
    refine g_get f_Di_32 (by assumption) rfl d_Di_uniteTables_4 ?_
    refine g_icmpN_ge (tgt := 32) d_Di_uniteTables_7 (by decide) (by omega) (by omega) (fun hb_7 => ?_) (fun hb_7 => ?_)
    · refine g_iconst (v := nI 3) d_Di_uniteTables_32 (by decide) ?_
      refine g_istore_n d_Di_uniteTables_33 (by decide) ?_
      obtain ⟨lk0, z1, z2⟩ : ∃ lk0 : Nat → Nat → Nat, lk0 4 = w4 ∧ ∀ j, j ≠ 4 → lk0 j = lk j := ⟨fun j => if j = 4 then w4 else lk j, if_pos rfl, fun j hj => if_neg hj⟩
      have hL2 : o_dW E M2 (D + 21) lk0 := by
        intro j hj
        by_cases e : j = 4
        · rw [e, z1]; exact e2
        · rw [z2 j e]; exact (hfr2 _ (by omega)).trans (hL j hj)
      refine g_for (P := fun k => ∀ (M3 : gM) (lk3 : Nat → Nat → Nat) (y : Option Value), o_dW E M3 (D + 21) lk3 → (∀ j x, j < 5 → x < 256 → lk3 j x < 256) → (∀ s, s < S → lk3 4 s = jds rs s) → (∀ f, 4 - k ≤ f → f < 4 → lk3 f = lkr (wy f) (lk3 (f + 1)) (ct f) (cn f) S (lk f)) → (∀ f, f < 4 - k → lk3 f = lk f) → (∀ x, (x < D + 21 ∨ D + 25 < x) → M3 x = M x) → G _ _ _ _ _ _ _ _ _ _ _ _ 34 [some (.ref D), some (.int (fvk k)), y] [] N M3 0 0) (e := 4) ?_ ?_ 0 (by omega) M2 lk0 none hL2 ?_ ?_ (fun f hf hf2 => by omega) (fun f hf => z2 f (by omega)) (fun x hx => hfr2 x (by omega))
      · intro M3 lk3 y hL3 b3 j3 r3 o3 fr3
        refine g_iload_n d_Di_uniteTables_34 rfl ?_
        refine g_if_lt (tgt := 83) d_Di_uniteTables_35 (by decide) (fun _ => ?_) (fun hb => absurd (by decide) hb)
        exact g_return rfl (by omega) (by omega) d_Di_uniteTables_83 ⟨_, rfl, rfl, rfl, ⟨lk3, hL3, b3, j3, fun f hf => r3 f (by omega) hf⟩, fr3⟩
      · intro k hk ih M3 lk3 y hL3 b3 j3 r3 o3 fr3
        rw [show fvk k = nI (3 - k) from if_pos hk]
        have hstep := fvk_step k hk
        obtain ⟨f, hf⟩ : ∃ f, f = 3 - k := ⟨_, rfl⟩
        rw [← hf] at hstep ⊢
        have hf4 : f < 4 := by omega
        refine g_iload_n d_Di_uniteTables_34 rfl ?_
        refine g_ifN_lt (tgt := 83) d_Di_uniteTables_35 (by decide) (by omega) (fun hb_35 => ?_) (fun hb_35 => ?_)
        · exact hb_35.elim
        refine g_iconst (v := nI 0) d_Di_uniteTables_38 (by decide) ?_
        refine g_istore_n d_Di_uniteTables_39 (by decide) ?_
        refine g_for (P := fun s => ∀ (M4 : gM) (w : Nat → Nat), M4 (D + 21 + f) = some (g_ia E 256 (fun x => nI (w x))) → w = lkr (wy f) (lk3 (f + 1)) (ct f) (cn f) s (lk f) → (∀ x, x < 256 → w x < 256) → (∀ x, x ≠ D + 21 + f → M4 x = M3 x) → G _ _ _ _ _ _ _ _ _ _ _ _ 40 [some (.ref D), some (.int (nI f)), some (.int (nI s))] [] N M4 0 0) (e := S) ?_ ?_ 0 (by omega) M3 (lk3 f) (hL3 f (by omega)) (o3 f (by omega)) (fun x hx => b3 f x (by omega) hx) (fun _ _ => rfl)
        · intro M4 w e4 hw b4 fr4
          have h14 := (fr4 D (by omega)).trans ((fr3 D (by omega)).trans h1)
          obtain ⟨lk4, y1, y2⟩ : ∃ lk4 : Nat → Nat → Nat, lk4 f = w ∧ ∀ j, j ≠ f → lk4 j = lk3 j := ⟨fun j => if j = f then w else lk3 j, if_pos rfl, fun j hj => if_neg hj⟩
          have hL4 : o_dW E M4 (D + 21) lk4 := by
            intro j hj
            by_cases e : j = f
            · rw [e, y1]; exact e4
            · rw [y2 j e]; exact (fr4 _ (by omega)).trans (hL3 j hj)
          refine g_iload_n d_Di_uniteTables_40 rfl ?_
          refine g_aload_n d_Di_uniteTables_41 rfl ?_
          refine g_get f_Di_32 (by assumption) rfl d_Di_uniteTables_42 ?_
          refine g_icmpN_ge (tgt := 77) d_Di_uniteTables_45 (by decide) (by omega) (by omega) (fun hb_45 => ?_) (fun hb_45 => ?_)
          · refine g_iinc (v := fvk (k + 1)) d_Di_uniteTables_77 rfl hstep (by decide) ?_
            refine g_goto (tgt := 34) d_Di_uniteTables_80 (by decide) ?_
            refine ih M4 lk4 _ hL4 (fun j x hj hx => ?_) (fun s hs => ?_) (fun g hg hg4 => ?_) (fun g hg => ?_) (fun x hx => (fr4 x (by omega)).trans (fr3 x hx))
            · by_cases e : j = f
              · rw [e, y1]; exact b4 x hx
              · rw [y2 j e]; exact b3 j x hj hx
            · rw [y2 4 (by omega)]; exact j3 s hs
            · by_cases e : g = f
              · rw [e, y1, y2 (f + 1) (by omega)]; exact hw
              · rw [y2 g e, y2 (g + 1) (by omega)]; exact r3 g (by omega) hg4
            · rw [y2 g (by omega)]; exact o3 g (by omega)
          · omega
        · intro s hs ihs M4 w e4 hw b4 fr4
          have fr4' : ∀ x, (x < D + 21 ∨ D + 25 < x) → M4 x = M x := fun x hx => (fr4 x (by omega)).trans (fr3 x hx)
          have hB4 := hB0.kept (M' := M4) (fun x hx => fr4' x (by omega))
          obtain ⟨i1, i2, i4, fd, i6, i7⟩ := hB4
          have hB4 := hB0.kept (M' := M4) (fun x hx => fr4' x (by omega))
          have hC4 := hC.kept (M' := M4) (fun x _ _ => fr4' x (by omega))
          have hW4 := hW.kept (M' := M4) (fun x _ _ => fr4' x (by omega))
          obtain ⟨lk4, y1, y2⟩ : ∃ lk4 : Nat → Nat → Nat, lk4 f = w ∧ ∀ j, j ≠ f → lk4 j = lk3 j := ⟨fun j => if j = f then w else lk3 j, if_pos rfl, fun j hj => if_neg hj⟩
          have hL4 : o_dW E M4 (D + 21) lk4 := by
            intro j hj
            by_cases e : j = f
            · rw [e, y1]; exact e4
            · rw [y2 j e]; exact (fr4 _ (by omega)).trans (hL3 j hj)
          have hfl := fun (N : Nat) => k_Di_firstLike (l := l) (N := N) hB4 hC4 hW4 hL4 f s hf4 (fun x hx => hwy f x hf4 hx) (fun x hx => by rw [y2 (f + 1) (by omega)]; exact b3 (f + 1) x (by omega) hx) (fun x hx => by rw [y1]; exact b4 x hx) (by omega)
          rw [y1, y2 (f + 1) (by omega)] at hfl
          refine g_iload_n d_Di_uniteTables_40 rfl ?_
          refine g_aload_n d_Di_uniteTables_41 rfl ?_
          refine g_get f_Di_32 (by assumption) rfl d_Di_uniteTables_42 ?_
          refine g_icmpN_ge (tgt := 77) d_Di_uniteTables_45 (by decide) (by omega) (by omega) (fun hb_45 => ?_) (fun hb_45 => ?_)
          · omega
          refine g_aload_n d_Di_uniteTables_48 rfl ?_
          refine g_iload_n d_Di_uniteTables_49 rfl ?_
          refine g_iload_n d_Di_uniteTables_50 rfl ?_
          refine g_callV s_Di_63 sv_Di_isTable (by assumption) rfl (g_of_val (k_Di_isTable hB4 hW4 f s (by omega) (by omega) (hwy f s hf4 (by omega)))) (by omega) rfl (by omega) (by omega) rfl (Nat.le_of_ble_eq_true rfl) d_Di_uniteTables_51 ?_
          rintro _ _ _ ⟨rfl, rfl, rfl⟩
          first | refine g_ifB_eq (tgt := 71) d_Di_uniteTables_54 (by decide) (fun hb_54 => ?_) (fun hb_54 => ?_) | refine g_ifN_eq (tgt := 71) d_Di_uniteTables_54 (by decide) (by omega) (fun hb_54 => ?_) (fun hb_54 => ?_)
          · refine g_iinc1 d_Di_uniteTables_71 rfl (by decide) ?_
            refine g_goto (tgt := 40) d_Di_uniteTables_74 (by decide) ?_
            refine ihs M4 w e4 ?_ b4 fr4
            rw [hw]
            show _ = (if 0 < wy f s then _ else lkr (wy f) (lk3 (f + 1)) (ct f) (cn f) s (lk f))
            rw [if_neg (of_decide_eq_false hb_54)]
          · refine g_aload_n d_Di_uniteTables_57 rfl ?_
            refine g_get f_Di_29 (by assumption) rfl d_Di_uniteTables_58 ?_
            refine g_iload_n d_Di_uniteTables_61 rfl ?_
            refine g_aald f (by assumption) rfl rfl rfl (by omega) (by decide) (i7 f (by omega)) d_Di_uniteTables_62 ?_
            refine g_iload_n d_Di_uniteTables_63 rfl ?_
            refine g_aload_n d_Di_uniteTables_64 rfl ?_
            refine g_iload_n d_Di_uniteTables_65 rfl ?_
            refine g_iload_n d_Di_uniteTables_66 rfl ?_
            refine g_callV s_Di_67 sv_Di_firstLike (by assumption) rfl (g_of_val (hfl _)) (by omega) rfl (by omega) (by omega) rfl (Nat.le_of_ble_eq_true rfl) d_Di_uniteTables_67 ?_
            rintro _ _ _ ⟨rfl, rfl, rfl⟩
            refine g_iast _ (by assumption) rfl (by omega) (by decide) d_Di_uniteTables_70 ?_
            refine g_nm (fun M5 e5 f5 => ?_)
            rw [upd_nI] at e5
            refine g_iinc1 d_Di_uniteTables_71 rfl (by decide) ?_
            refine g_goto (tgt := 40) d_Di_uniteTables_74 (by decide) ?_
            refine ihs M5 _ e5 ?_ (fun x hx => ?_) (fun x hx => (f5 x hx).trans (fr4 x hx))
            · show _ = (if 0 < wy f s then va_up (lkr (wy f) (lk3 (f + 1)) (ct f) (cn f) s (lk f)) s (flk (wy f) (lkr (wy f) (lk3 (f + 1)) (ct f) (cn f) s (lk f)) (lk3 (f + 1)) (ct f) (cn f) s) else _)
              rw [if_pos (of_decide_eq_true hb_54), ← hw]
            · by_cases e : x = s
              · rw [e, va_up_self]
                have := flk_le (wy f) w (lk3 (f + 1)) (ct f) (cn f) s
                omega
              · rw [va_up_ne _ _ e]
                exact b4 x hx
      · intro j x hj hx
        by_cases e : j = 4
        · rw [e, z1]; exact hb4 x hx
        · rw [z2 j e]; exact hlk j x hj hx
      · intro s hs
        rw [z1]; exact hw4 s hs
    · omega
  · intro i hi ih M2 w e2 hw hb hfr2
    have h1' := (hfr2 D (by omega)).trans h1
    have h6' := (hfr2 (D + 20) (by omega)).trans h6
    have hR2 := hR.kept (M' := M2) (fun x _ _ => hfr2 x (by omega))
    have hR2a := hR2.1
    have hj : jds rs i < 3 := by
      unfold jds
      split
      · omega
      · exact (hR.2.2.1 _ (lb_n m hm i (by omega) (by assumption))).1
    refine g_iload_n d_Di_uniteTables_2 rfl ?_
    refine g_aload_n d_Di_uniteTables_3 rfl ?_
    refine g_get f_Di_32 (by assumption) rfl d_Di_uniteTables_4 ?_
    refine g_icmpN_ge (tgt := 32) d_Di_uniteTables_7 (by decide) (by omega) (by omega) (fun hb_7 => ?_) (fun hb_7 => ?_)
    · omega
    refine g_aload_n d_Di_uniteTables_10 rfl ?_
    refine g_get f_Di_29 (by assumption) rfl d_Di_uniteTables_11 ?_
    refine g_iconst (v := nI 4) d_Di_uniteTables_14 (by decide) ?_
    refine g_aald 4 (by assumption) rfl rfl rfl (by omega) (by decide) (h7 4 (by omega)) d_Di_uniteTables_15 ?_
    refine g_iload_n d_Di_uniteTables_16 rfl ?_
    refine g_aload_n d_Di_uniteTables_17 rfl ?_
    refine g_get f_Di_9 (by assumption) rfl d_Di_uniteTables_18 ?_
    refine g_iload_n d_Di_uniteTables_21 rfl ?_
    refine g_callV s_Di_56 sv_RL_judgeSet (by assumption) rfl (g_of_val (k_RL_judgeSet hR2 i (by omega))) (by omega) rfl (by omega) (by omega) rfl (Nat.le_of_ble_eq_true rfl) d_Di_uniteTables_22 ?_
    rintro _ _ _ ⟨rfl, rfl, rfl⟩
    refine g_eqi (z := nI (jds rs i)) rfl ?_
    refine g_iast _ (by assumption) rfl (by omega) (by decide) d_Di_uniteTables_25 ?_
    refine g_nm (fun M3 e3 f3 => ?_)
    rw [upd_nI] at e3
    refine g_iinc1 d_Di_uniteTables_26 rfl (by decide) ?_
    refine g_goto (tgt := 2) d_Di_uniteTables_29 (by decide) ?_
    refine ih M3 _ e3 (fun s hs => ?_) (fun x hx => ?_) (fun x hx => (f3 x hx).trans (hfr2 x hx))
    · by_cases e : s = i
      · rw [e, va_up_self]
      · rw [va_up_ne _ _ e]
        exact hw s (by omega)
    · by_cases e : x = i
      · rw [e, va_up_self]
        omega
      · rw [va_up_ne _ _ e]
        exact hb x hx
theorem k_Di_init (h : M D = some (.inr (7, [.null, .null, .null, .null, .int 0]))) (hN : D + 1 = N) (hq : M q = some (.inr (5, [.ref (q + 1), .int (nI m)]))) (hd : q + 25 < D) : Ctr l E y_Di_init 2 [.ref D, .ref q] N M 25 3000 (g_ret (fun v N' M' => v = none ∧ N' = N + 25 ∧ o_dB E M' D q 1 ∧ (∃ cn' cs' ct', o_dC E M' D cn' cs' ct') ∧ o_dW E M' (D + 15) (fun _ _ => 0) ∧ o_dW E M' (D + 21) (fun _ _ => 0) ∧ ∀ x, (x < D ∨ D + 25 < x) → M' x = M x)) := by
  refine ctr_of [some (.ref D), some (.ref q), none] (by decide) w_122 rfl rfl (Nat.le_of_ble_eq_true rfl) (fun Γ => ?_)
  refine g_aload_n d_Di_init_0 rfl ?_
  refine g_objInit w_123 m_objI m_objC (by omega) (Nat.le_of_ble_eq_true rfl) d_Di_init_1 ?_
  refine g_aload_n d_Di_init_4 rfl ?_
  refine g_aload_n d_Di_init_5 rfl ?_
  refine g_putF p_Di_9 rfl (by assumption) (Nat.le_of_ble_eq_true rfl) rfl rfl d_Di_init_6 ?_
  refine g_nm (fun M1 e1 f1 => ?_)
  refine g_aload_n d_Di_init_9 rfl ?_
  refine g_iconst (v := nI 4) d_Di_init_10 (by decide) ?_
  refine g_newq 6 _ rfl w_124 ao_Cu rfl (by decide) (by omega) (by omega) d_Di_init_11 ?_
  refine g_nm (fun M2 e2 f2 => ?_)
  have a2 := (f2 D (by omega)).trans e1
  refine g_putF p_Di_17 rfl (by assumption) (Nat.le_of_ble_eq_true rfl) rfl rfl d_Di_init_14 ?_
  refine g_nm (fun M3 e3 f3 => ?_)
  refine g_iconst (v := nI 0) d_Di_init_17 (by decide) ?_
  refine g_istore_n d_Di_init_18 (by decide) ?_
  refine g_for (P := fun i => ∀ (N1 : Nat) (M4 : gM), N1 = D + 2 + 3 * i → M4 D = some (.inr (7, [.ref q, .ref (D + 1), .null, .null, .int 0])) → (∃ fa, M4 (D + 1) = some (g_qa E 6 4 fa) ∧ ∀ j, j < i → fa j = some (D + 2 + 3 * j)) → (∀ j, j < i → o_cut E M4 (D + 2 + 3 * j) j 17 1 (fun _ => 0) (fun _ => 0)) → (∀ x, (x < D ∨ D + 25 < x) → M4 x = M x) → G _ _ _ _ _ _ _ _ _ _ _ _ 19 [some (.ref D), some (.ref q), some (.int (nI i))] [] N1 M4 (1 + 3 * i) (4 + 38 * i)) (e := 4) ?_ ?_ 0 (by decide) _ M3 (by omega) ?_ ?_ ?_ ?_
  · intro N1 M4 hN1 g1 g2 g3 g4
    subst hN1
    refine g_iload_n d_Di_init_19 rfl ?_
    refine g_iconst (v := nI 4) d_Di_init_20 (by decide) ?_
    refine g_icmpN_ge (tgt := 46) d_Di_init_21 (by decide) (by omega) (by omega) (fun hb_21 => ?_) (fun hb_21 => ?_)
    · refine g_aload_n d_Di_init_46 rfl ?_
      refine g_iconst (v := nI 5) d_Di_init_47 (by decide) ?_
      refine g_sipush (v := nI 256) d_Di_init_48 (by decide) ?_
      refine g_mult 5 256 w_144 w_90 (by decide) (by decide) (by omega) (by omega) d_Di_init_51 ?_
      refine g_mmN (fun M5 e5 i5 f5 => ?_)
      have g15 := (f5 D (by omega)).trans g1
      refine g_putF p_Di_26 rfl (by assumption) (Nat.le_of_ble_eq_true rfl) rfl rfl d_Di_init_55 ?_
      refine g_nm (fun M6 e6 f6 => ?_)
      refine g_aload_n d_Di_init_58 rfl ?_
      refine g_iconst (v := nI 5) d_Di_init_59 (by decide) ?_
      refine g_sipush (v := nI 256) d_Di_init_60 (by decide) ?_
      refine g_mult 5 256 w_144 w_90 (by decide) (by decide) (by omega) (by omega) d_Di_init_63 ?_
      refine g_mmN (fun M7 e7 i7 f7 => ?_)
      have g17 := (f7 D (by omega)).trans e6
      refine g_putF p_Di_29 rfl (by assumption) (Nat.le_of_ble_eq_true rfl) rfl rfl d_Di_init_67 ?_
      refine g_nm (fun M8 e8 f8 => ?_)
      refine g_aload_n d_Di_init_70 rfl ?_
      refine g_iconst (v := nI 1) d_Di_init_71 (by decide) ?_
      refine g_put p_Di_32 (by assumption) (Nat.le_of_ble_eq_true rfl) rfl rfl d_Di_init_72 ?_
      refine g_nm (fun M9 e9 f9 => ?_)
      have fz : ∀ x, x ≠ D → M9 x = M7 x := fun x hx => (f9 x hx).trans (f8 x hx)
      have fy : ∀ x, x ≠ D → x < D + 14 ∨ D + 25 < x → M9 x = M4 x := fun x hx hx2 => (fz x hx).trans ((f7 x (by omega)).trans ((f6 x hx).trans (f5 x (by omega))))
      refine g_return rfl (by omega) (by omega) d_Di_init_75 ⟨_, rfl, rfl, by omega, ⟨e9, ?_, ⟨_, (fz _ (by omega)).trans ((f7 _ (by omega)).trans ((f6 _ (by omega)).trans e5)), fun j hj => ?_⟩, ⟨_, (fz _ (by omega)).trans e7, fun j hj => ?_⟩⟩, ⟨fun _ => 1, fun _ _ => 0, fun _ _ => 0, fun f hf => (g3 f hf).kept (fun x _ _ => fy x (by omega) (by omega))⟩, fun j hj => ?_, fun j hj => ?_, fun x hx => (fy x (by omega) (by omega)).trans (g4 x hx)⟩
      · obtain ⟨fa, b1, b2⟩ := g2
        exact ⟨fa, (fy _ (by omega) (by omega)).trans b1, b2⟩
      · show (if j < 5 then _ else none) = _
        rw [if_pos hj]
      · show (if j < 5 then _ else none) = _
        rw [if_pos hj]
      · rw [fz _ (by omega), f7 _ (by omega), f6 _ (by omega)]
        exact i5 j hj
      · rw [fz _ (by omega)]
        exact i7 j hj
    · omega
  · intro i hi ih N1 M4 hN1 g1 g2 g3 g4
    obtain ⟨fa, b1, b2⟩ := g2
    refine g_iload_n d_Di_init_19 rfl ?_
    refine g_iconst (v := nI 4) d_Di_init_20 (by decide) ?_
    refine g_icmpN_ge (tgt := 46) d_Di_init_21 (by decide) (by omega) (by omega) (fun hb_21 => ?_) (fun hb_21 => ?_)
    · omega
    refine g_aload_n d_Di_init_24 rfl ?_
    refine g_get f_Di_17 (by assumption) rfl d_Di_init_25 ?_
    refine g_iload_n d_Di_init_28 rfl ?_
    refine g_new n_Di_15 (by omega) (by omega) d_Di_init_29 ?_
    refine g_nm (fun M5 e5 f5 => ?_)
    have c1 := (f5 D (by omega)).trans g1
    have c2 := (f5 (D + 1) (by omega)).trans b1
    refine g_dup d_Di_init_32 rfl ?_
    refine g_iload_n d_Di_init_33 rfl ?_
    refine g_bipush (v := nI 8) d_Di_init_34 (by decide) ?_
    refine g_callI s_Di_21 sv_Cu_init (k_Cu_init (cp := 8) e5 rfl hi (by omega)) (by omega) rfl (by omega) (by omega) rfl (Nat.le_of_ble_eq_true rfl) d_Di_init_36 ?_
    rintro v' N' M6 ⟨rfl, rfl, d1, d2⟩
    have c3 := (d2 (D + 1) (by omega) (by omega) (by omega)).trans c2
    have d3 := d1.1
    refine g_aast (ci := 6) (r := (R_Cu, F_Cu, 4)) i (by assumption) rfl rfl (by assumption) rfl (by omega) (by decide) d_Di_init_39 ?_
    refine g_nm (fun M7 e7 f7 => ?_)
    refine g_iinc1 d_Di_init_40 rfl (by decide) ?_
    refine g_goto (tgt := 19) d_Di_init_43 (by decide) ?_
    refine g_wide (k' := 1 + 3 * (i + 1)) (n' := 4 + 38 * (i + 1)) (by omega) (by omega) ?_
    refine ih _ M7 (by omega) ?_ ⟨_, e7, fun j hj => ?_⟩ (fun j hj => ?_) (fun x hx => ?_)
    · rw [f7 _ (by omega), d2 _ (by omega) (by omega) (by omega)]; exact c1
    · by_cases e : j = i
      · subst e
        rw [va_up_self, hN1]
      · rw [va_up_ne _ _ e]
        exact b2 j (by omega)
    · by_cases e : j = i
      · subst e
        rw [hN1] at d1
        exact d1.kept (fun x _ _ => f7 x (by omega))
      · exact (g3 j (by omega)).kept (fun x _ _ => by rw [f7 x (by omega), d2 x (by omega) (by omega) (by omega), f5 x (by omega)])
    · rw [f7 x (by omega), d2 x (by omega) (by omega) (by omega), f5 x (by omega)]
      exact g4 x hx
  · rw [e3, ← hN]; rfl
  · exact ⟨_, (f3 _ (by omega)).trans (by rw [hN]; exact e2), fun j hj => by omega⟩
  · exact fun j hj => by omega
  · exact fun x hx => by rw [f3 x (by omega), f2 x (by omega), f1 x (by omega)]
end DIAG2

