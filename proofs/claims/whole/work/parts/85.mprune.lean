/-! the model's prune -/
theorem bit_1 (w i : Nat) : (w / 2 ^ i &&& 1 = 1) ↔ w.testBit i = true := by
  rw [Nat.and_one_is_mod, Nat.testBit_eq_decide_div_mod_eq, decide_eq_true_iff]
theorem bit_lt (w i : Nat) : w / 2 ^ i &&& 1 < 2 := by
  rw [Nat.and_one_is_mod]
  omega
section MPRUNE
variable {l : Launch} {E : gE} {N : Nat} {M : gM} {W tn : Nat} {th sz lk rc pl fa : Int32} {ts cn mm : Nat → Nat} {cs : Nat → Nat → Nat} {rr : Nat → Nat → Rl} {gn : Nat} {gs : Nat → Nat}
theorem OM.lists {M' : gM} {mm' : Nat → Nat} {rr' : Nat → Nat → Rl} (h : OM E M W th tn ts mm rr gn gs) (hL : o_ml E M' W mm' rr') (hk : ∀ x, (x < W + 2 ∨ W + 5 < x) → M' x = M x) : OM E M' W th tn ts mm' rr' gn gs := by
  obtain ⟨⟨rc, pl, fa, hO⟩, hT, -, hK, hS⟩ := h
  exact ⟨⟨rc, pl, fa, (hk _ (by omega)).trans hO⟩, hT.kept (hk _ (by omega)), hL, hK.kept (hk _ (by omega)), hS.kept (fun x _ _ => hk x (by omega))⟩
theorem k_Mo_prune (h : OM E M W th tn ts mm rr gn gs) (j : Nat) (hj : j < 2) : Ctr l E y_Mo_prune 5 [.ref W, .int (nI j)] N M 0 0 (g_ret (fun w N' M' => w = some (.int (nI (prn (usdV (rr j) (mm j)) (mm j) (mm j) (rr j) 0).2.2)) ∧ N' = N ∧ OM E M' W (nI 0) tn ts (va_up mm j (prn (usdV (rr j) (mm j)) (mm j) (mm j) (rr j) 0).1) (va_up rr j (prn (usdV (rr j) (mm j)) (mm j) (mm j) (rr j) 0).2.1) gn gs ∧ ∀ x, (x < W ∨ W + 12 < x) → M' x = M x)) := by
  obtain ⟨⟨rc, pl, fa, hO⟩, hT, hL, hK, hS⟩ := h
  have h : OM E M W th tn ts mm rr gn gs := ⟨⟨rc, pl, fa, hO⟩, hT, hL, hK, hS⟩
  have hin := inI_yes (j := j) (k := 1) (by omega) (by omega)
  have hm := (hL.1 j hj).1
  have hap := fun i (hi : i < mm j) => usdV_apk (rr j) hm hi
  obtain ⟨u, hu⟩ : ∃ u, u = usdV (rr j) (mm j) := ⟨_, rfl⟩
  have hul : ∀ i, u i < 2 ^ 31 := by rw [hu]; exact usd_lt _ _
  rw [← hu] at hap ⊢
  obtain ⟨X, hX⟩ : ∃ X, X = prn u (mm j) (mm j) (rr j) 0 := ⟨_, rfl⟩
  rw [← hX]
  refine ctr_of [some (.ref W), some (.int (nI j)), none, none, none] (by decide) w_1112 rfl rfl (Nat.le_of_ble_eq_true rfl) (fun Γ => ?_)
  refine g_aload_n d_Mo_prune_0 rfl ?_
  refine g_iload_n d_Mo_prune_1 rfl ?_
  refine g_iconst (v := nI 0) d_Mo_prune_2 (by decide) ?_
  refine g_iconst (v := nI 1) d_Mo_prune_3 (by decide) ?_
  refine g_callS s_Mo_112 sv_Mo_in (g_of_val (k_Mo_in _ _ _)) (by omega) rfl (by omega) (by omega) rfl (Nat.le_of_ble_eq_true rfl) d_Mo_prune_4 ?_
  rintro _ _ _ ⟨rfl, rfl, rfl⟩
  first | refine g_ifB_ne (tgt := 14) d_Mo_prune_7 (by decide) (fun hb_7 => ?_) (fun hb_7 => ?_) | refine g_ifN_ne (tgt := 14) d_Mo_prune_7 (by decide) (by omega) (fun hb_7 => ?_) (fun hb_7 => ?_)
  rotate_left
  · rw [hin] at hb_7; cases hb_7
  refine g_iconst (v := nI 0) d_Mo_prune_14 (by decide) ?_
  refine g_iconst (v := nI 0) d_Mo_prune_15 (by decide) ?_
  refine g_callV s_Mo_57 sv_Mo_refuse (by assumption) rfl (k_Mo_refuse hO false false) (by omega) rfl (by omega) (by omega) rfl (Nat.le_of_ble_eq_true rfl) d_Mo_prune_16 ?_
  rintro v' N' M1 ⟨rfl, rfl, e1, f1⟩
  have h1 := h.own e1 f1
  have hL1 := hL.kept (M' := M1) (fun x _ _ => f1 x (by omega))
  first | refine g_ifB_eq (tgt := 24) d_Mo_prune_19 (by decide) (fun hb_19 => ?_) (fun hb_19 => ?_) | refine g_ifN_eq (tgt := 24) d_Mo_prune_19 (by decide) (by omega) (fun hb_19 => ?_) (fun hb_19 => ?_)
  rotate_left
  · cases hb_19
  refine g_iconst (v := nI 0) d_Mo_prune_24 (by decide) ?_
  refine g_istore_n d_Mo_prune_25 (by decide) ?_
  refine g_iconst (v := nI 0) d_Mo_prune_26 (by decide) ?_
  refine g_istore_n d_Mo_prune_27 (by decide) ?_
  refine g_iconst (v := nI 0) d_Mo_prune_28 (by decide) ?_
  refine g_istore d_Mo_prune_29 (by decide) ?_
  refine g_for (P := fun i => ∀ (M2 : gM) (w : Nat), w < 2 ^ i → (∀ t, t < i → w.testBit t = decide (u t = 0)) → (∃ cn cs, o_cu E M2 W cn cs) → (∀ x, x ≠ W + 7 → x ≠ W + 8 → M2 x = M1 x) → G _ _ _ _ _ _ _ _ _ _ _ _ 31 [some (.ref W), some (.int (nI j)), some (.int (nI 0)), some (.int (nI w)), some (.int (nI i))] [] _ M2 0 0) (e := mm j) ?_ ?_ 0 (by omega) M1 0 (by decide) (fun t ht => by omega) h1.2.2.2.2.1 (fun _ _ _ => rfl)
  · intro M2 w hw hbits hC2 f2
    have hw8 : w < 256 := Nat.lt_of_lt_of_le hw (Nat.pow_le_pow_right (by omega) hm)
    have g2 := (f2 W (by omega) (by omega)).trans e1
    have hL2 := hL1.kept (M' := M2) (fun x _ _ => f2 x (by omega) (by omega))
    have h2 := h1.cuts hC2 f2
    obtain ⟨-, -, -, -, fc, c1, c2⟩ := id hL2
    refine g_iload d_Mo_prune_31 rfl ?_
    refine g_aload_n d_Mo_prune_33 rfl ?_
    refine g_get f_Mo_22 (by assumption) rfl d_Mo_prune_34 ?_
    refine g_iload_n d_Mo_prune_37 rfl ?_
    refine g_iald _ (by assumption) rfl (by omega) (by decide) d_Mo_prune_38 ?_
    refine g_eqi (c2 j hj) ?_
    refine g_icmpN_ge (tgt := 70) d_Mo_prune_39 (by decide) (by omega) (by omega) (fun hb_39 => ?_) (fun hb_39 => ?_)
    rotate_left
    · omega
    refine g_aload_n d_Mo_prune_70 rfl ?_
    refine g_get f_Mo_22 (by assumption) rfl d_Mo_prune_71 ?_
    refine g_iload_n d_Mo_prune_74 rfl ?_
    refine g_iald _ (by assumption) rfl (by omega) (by decide) d_Mo_prune_75 ?_
    refine g_eqi (c2 j hj) ?_
    refine g_iconst (v := nI 1) d_Mo_prune_76 (by decide) ?_
    refine g_isub d_Mo_prune_77 ?_
    refine g_istore d_Mo_prune_78 (by decide) ?_
    refine g_for (P := fun k => ∀ (M3 : gM) (m3 g3 : Nat) (r3 : Nat → Rl) (x3 : Int32), x3 = nI (mm j - k) - nI 1 → mm j - k ≤ m3 → o_ml E M3 W (va_up mm j m3) (va_up rr j r3) → X = prn u (mm j - k) m3 r3 g3 → (∀ x, (x < W + 2 ∨ W + 5 < x) → M3 x = M2 x) → G _ _ _ _ _ _ _ _ _ _ _ _ 80 [some (.ref W), some (.int (nI j)), some (.int (nI g3)), some (.int (nI w)), some (.int x3)] [] _ M3 0 0) (e := mm j) ?_ ?_ 0 (by omega) M2 (mm j) 0 (rr j) _ rfl (by omega) (by rw [va_same, va_same]; exact hL2) hX (fun _ _ => rfl)
    · intro M3 m3 g3 r3 x3 e3 hle hL3 hX3 f3
      rw [Nat.sub_self] at hX3 e3
      have e4 : X = (m3, r3, g3) := hX3
      rw [e4]
      refine g_iload d_Mo_prune_80 rfl ?_
      refine g_if_lt (tgt := 111) d_Mo_prune_82 (by decide) (fun _ => ?_) (fun hb => absurd (by rw [e3]; decide) hb)
      refine g_iload_n d_Mo_prune_111 rfl ?_
      exact g_ireturn rfl rfl (by omega) (by omega) d_Mo_prune_112 ⟨_, rfl, rfl, rfl, h2.lists hL3 f3, fun x hx => (f3 x (by omega)).trans ((f2 x (by omega) (by omega)).trans (f1 x (by omega)))⟩
    · intro k hk ih M3 m3 g3 r3 x3 e3 hle hL3 hX3 f3
      obtain ⟨i, hi⟩ : ∃ i, mm j - k = i + 1 := ⟨mm j - k - 1, by omega⟩
      have hi2 : mm j - (k + 1) = i := by omega
      rw [hi] at e3 hX3 hle
      rw [hi2] at ih
      have e5 : x3 = nI i := e3.trans (pk_sub (by omega))
      rw [e5]
      have hbit := hbits i (by omega)
      have hb1 := bit_1 w i
      have hb2 := bit_lt w i
      have gg3 := (f3 W (by omega)).trans g2
      refine g_iload d_Mo_prune_80 rfl ?_
      refine g_ifN_lt (tgt := 111) d_Mo_prune_82 (by decide) (by omega) (fun hb_82 => ?_) (fun hb_82 => ?_)
      · exact hb_82.elim
      refine g_iload_n d_Mo_prune_85 rfl ?_
      refine g_iload d_Mo_prune_86 rfl ?_
      refine g_ishr d_Mo_prune_88 ?_
      refine g_eqi (nI_shr (by omega) (by omega)) ?_
      refine g_iconst (v := nI 1) d_Mo_prune_89 (by decide) ?_
      refine g_iand d_Mo_prune_90 ?_
      refine g_eqi (nI_and _ _) ?_
      refine g_iconst (v := nI 1) d_Mo_prune_91 (by decide) ?_
      refine g_icmpN_ne (tgt := 105) d_Mo_prune_92 (by decide) (by omega) (by omega) (fun hb_92 => ?_) (fun hb_92 => ?_)
      · refine g_iinc (v := nI i - nI 1) d_Mo_prune_105 rfl (iinc_m _) (by decide) ?_
        refine g_goto (tgt := 80) d_Mo_prune_108 (by decide) ?_
        refine ih M3 m3 g3 r3 _ rfl (by omega) hL3 ?_ f3
        rw [hX3]
        show (if u i = 0 then _ else _) = _
        rw [if_neg (fun q => hb_92 (hb1.mpr (by rw [hbit]; exact decide_eq_true q)))]
      · refine g_aload_n d_Mo_prune_95 rfl ?_
        refine g_iload_n d_Mo_prune_96 rfl ?_
        refine g_iload d_Mo_prune_97 rfl ?_
        refine g_callV s_Mo_127 sv_Mo_drop (by assumption) rfl (k_Mo_drop gg3 hL3 j i hj (by rw [va_up_self]; omega)) (by omega) rfl (by omega) (by omega) rfl (Nat.le_of_ble_eq_true rfl) d_Mo_prune_99 ?_
        rintro v' N' M4 ⟨rfl, rfl, hL4, f4⟩
        rw [va_up_self, va_up_self, va_up2, va_up2] at hL4
        refine g_iinc1 d_Mo_prune_102 rfl (by decide) ?_
        refine g_iinc (v := nI i - nI 1) d_Mo_prune_105 rfl (iinc_m _) (by decide) ?_
        refine g_goto (tgt := 80) d_Mo_prune_108 (by decide) ?_
        refine ih M4 (m3 - 1) (g3 + 1) _ _ rfl (by omega) hL4 ?_ (fun x hx => (f4 x hx).trans (f3 x hx))
        rw [hX3]
        show (if u i = 0 then _ else _) = _
        rw [if_pos (of_decide_eq_true (hbit ▸ hb1.mp hb_92))]
  · intro i hi ih M2 w hw hbits hC2 f2
    have g2 := (f2 W (by omega) (by omega)).trans e1
    have hL2 := hL1.kept (M' := M2) (fun x _ _ => f2 x (by omega) (by omega))
    obtain ⟨-, -, -, -, fc, c1, c2⟩ := id hL2
    obtain ⟨cn2, cs2, hC2'⟩ := id hC2
    have hp2 : 2 ^ (i + 1) = 2 ^ i + 2 ^ i := by rw [Nat.pow_succ]; omega
    refine g_iload d_Mo_prune_31 rfl ?_
    refine g_aload_n d_Mo_prune_33 rfl ?_
    refine g_get f_Mo_22 (by assumption) rfl d_Mo_prune_34 ?_
    refine g_iload_n d_Mo_prune_37 rfl ?_
    refine g_iald _ (by assumption) rfl (by omega) (by decide) d_Mo_prune_38 ?_
    refine g_eqi (c2 j hj) ?_
    refine g_icmpN_ge (tgt := 70) d_Mo_prune_39 (by decide) (by omega) (by omega) (fun hb_39 => ?_) (fun hb_39 => ?_)
    · omega
    refine g_iload_n d_Mo_prune_42 rfl ?_
    refine g_aload_n d_Mo_prune_43 rfl ?_
    refine g_iload_n d_Mo_prune_44 rfl ?_
    refine g_iconst (v := nI 1) d_Mo_prune_45 (by decide) ?_
    refine g_iload d_Mo_prune_46 rfl ?_
    refine g_callV s_Mo_156 sv_Mo_sum (by assumption) rfl (k_Mo_sum1 g2 hL2 hC2' j i hj hi) (by omega) rfl (by omega) (by omega) rfl (Nat.le_of_ble_eq_true rfl) d_Mo_prune_48 ?_
    rintro v' N' M3 ⟨rfl, rfl, hC3, f3⟩
    have hui := hul i
    refine g_eqi (z := nI (u i)) (by rw [hap i hi]) ?_
    refine g_ifN_ne (tgt := 61) d_Mo_prune_51 (by decide) hui (fun hb_51 => ?_) (fun hb_51 => ?_)
    · refine g_iconst (v := nI 0) d_Mo_prune_61 (by decide) ?_
      refine g_ior d_Mo_prune_62 ?_
      refine g_eqi (nI_or _ _) ?_
      rw [Nat.or_zero]
      refine g_istore_n d_Mo_prune_63 (by decide) ?_
      refine g_iinc1 d_Mo_prune_64 rfl (by decide) ?_
      refine g_goto (tgt := 31) d_Mo_prune_67 (by decide) ?_
      refine ih M3 w (by omega) (fun t ht => ?_) hC3 (fun x x1 x2 => (f3 x x1 x2).trans (f2 x x1 x2))
      by_cases e : t = i
      · subst e
        rw [decide_eq_false hb_51]
        exact Nat.testBit_lt_two_pow hw
      · exact hbits t (by omega)
    · refine g_iconst (v := nI 1) d_Mo_prune_54 (by decide) ?_
      refine g_iload d_Mo_prune_55 rfl ?_
      refine g_ishl d_Mo_prune_57 ?_
      refine g_eqi (nI_bit (by omega)) ?_
      refine g_goto (tgt := 62) d_Mo_prune_58 (by decide) ?_
      refine g_ior d_Mo_prune_62 ?_
      refine g_eqi (nI_or _ _) ?_
      refine g_istore_n d_Mo_prune_63 (by decide) ?_
      refine g_iinc1 d_Mo_prune_64 rfl (by decide) ?_
      refine g_goto (tgt := 31) d_Mo_prune_67 (by decide) ?_
      refine ih M3 _ (Nat.or_lt_two_pow (by omega) (by have := Nat.two_pow_pos i; omega)) (fun t ht => ?_) hC3 (fun x x1 x2 => (f3 x x1 x2).trans (f2 x x1 x2))
      rw [Nat.testBit_or, Nat.testBit_two_pow]
      by_cases e : t = i
      · subst e
        rw [decide_eq_true hb_51, decide_eq_true rfl, Bool.or_true]
      · rw [hbits t (by omega), decide_eq_false (p := i = t) (fun q => e q.symm), Bool.or_false]
theorem x_Mo_prune (h : OM E M W th tn ts mm rr gn gs) (x : Int32) (hx : noN x 2) : Ctr l E y_Mo_prune 5 [.ref W, .int x] N M 0 0 (g_ret (fun v N' M' => v = some (.int (nI 0)) ∧ N' = N ∧ OM E M' W (nI 1) tn ts mm rr gn gs ∧ ∀ x, x ≠ W → M' x = M x)) := by
  obtain ⟨⟨rc, pl, fa, hO⟩, hT, hL, hK, hS⟩ := h
  have h : OM E M W th tn ts mm rr gn gs := ⟨⟨rc, pl, fa, hO⟩, hT, hL, hK, hS⟩
  have hin := inI_no (k := 1) hx (by omega)
  refine ctr_of [some (.ref W), some (.int x), none, none, none] (by decide) w_1112 rfl rfl (Nat.le_of_ble_eq_true rfl) (fun Γ => ?_)
  refine g_aload_n d_Mo_prune_0 rfl ?_
  refine g_iload_n d_Mo_prune_1 rfl ?_
  refine g_iconst (v := nI 0) d_Mo_prune_2 (by decide) ?_
  refine g_iconst (v := nI 1) d_Mo_prune_3 (by decide) ?_
  refine g_callS s_Mo_112 sv_Mo_in (g_of_val (k_Mo_in _ _ _)) (by omega) rfl (by omega) (by omega) rfl (Nat.le_of_ble_eq_true rfl) d_Mo_prune_4 ?_
  rintro _ _ _ ⟨rfl, rfl, rfl⟩
  first | refine g_ifB_ne (tgt := 14) d_Mo_prune_7 (by decide) (fun hb_7 => ?_) (fun hb_7 => ?_) | refine g_ifN_ne (tgt := 14) d_Mo_prune_7 (by decide) (by omega) (fun hb_7 => ?_) (fun hb_7 => ?_)
  · rw [hin] at hb_7; cases hb_7
  · refine g_iconst (v := nI 1) d_Mo_prune_10 (by decide) ?_
    refine g_goto (tgt := 15) d_Mo_prune_11 (by decide) ?_
    refine g_iconst (v := nI 0) d_Mo_prune_15 (by decide) ?_
    refine g_callV s_Mo_57 sv_Mo_refuse (by assumption) rfl (k_Mo_refuse hO true false) (by omega) rfl (by omega) (by omega) rfl (Nat.le_of_ble_eq_true rfl) d_Mo_prune_16 ?_
    rintro v' N' M1 ⟨rfl, rfl, e1, f1⟩
    first | refine g_ifB_eq (tgt := 24) d_Mo_prune_19 (by decide) (fun hb_19 => ?_) (fun hb_19 => ?_) | refine g_ifN_eq (tgt := 24) d_Mo_prune_19 (by decide) (by omega) (fun hb_19 => ?_) (fun hb_19 => ?_)
    · cases hb_19
    · refine g_iconst (v := nI 0) d_Mo_prune_22 (by decide) ?_
      exact g_ireturn rfl rfl (by omega) (by omega) d_Mo_prune_23 ⟨_, rfl, rfl, rfl, h.own e1 f1, f1⟩
end MPRUNE

