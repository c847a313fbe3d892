theorem o_ml.of2 {E : gE} {M : gM} {W : Nat} {kk mm : Nat → Nat} {rr r0 : Nat → Nat → Rl} (h1 : ∀ j, j < 2 → mm j ≤ 8 ∧ ∀ i, i < mm j → r_ok (rr j i)) (h2 : o_mR E M W kk r0) (hk : ∀ j i, j < 2 → i < mm j → i < kk j ∧ rr j i = r0 j i) (h3 : o_mc E M W mm) : o_ml E M W mm rr := by
  obtain ⟨⟨a, a1, a2⟩, ⟨b, b1, b2⟩, c, c1, c2⟩ := h2
  refine ⟨h1, ⟨a, a1, fun j i hj hi => ?_⟩, ⟨b, b1, fun j i f hj hi hf => ?_⟩, ⟨c, c1, fun j i f hj hi hf => ?_⟩, h3⟩
  · rw [(hk j i hj hi).2]; exact a2 j i hj (hk j i hj hi).1
  · rw [(hk j i hj hi).2]; exact b2 j i f hj (hk j i hj hi).1 hf
  · rw [(hk j i hj hi).2]; exact c2 j i f hj (hk j i hj hi).1 hf
theorem va_up2 {α : Type} (f : Nat → α) (j : Nat) (a b : α) : va_up (va_up f j a) j b = va_up f j b := by
  funext x
  by_cases e : x = j
  · subst e; rw [va_up_self, va_up_self]
  · rw [va_up_ne _ _ e, va_up_ne _ _ e, va_up_ne _ _ e]
def mvd (r : Nat → Rl) (i k : Nat) : Nat → Rl := fun t => if t < i then r t else if t < k then r (t + 1) else r t
theorem mvd_step (r : Nat → Rl) {i k : Nat} (h : i ≤ k) : va_up (mvd r i k) k (mvd r i k (k + 1)) = mvd r i (k + 1) := by
  funext t
  by_cases e : t = k
  · subst e
    rw [va_up_self]
    unfold mvd
    rw [if_neg (by omega), if_neg (by omega), if_neg (by omega), if_pos (by omega)]
  · rw [va_up_ne _ _ e]
    unfold mvd
    by_cases c1 : t < i
    · rw [if_pos c1, if_pos c1]
    · rw [if_neg c1, if_neg c1]
      by_cases c2 : t < k
      · rw [if_pos c2, if_pos (by omega)]
      · rw [if_neg c2, if_neg (by omega)]
theorem mvd_0 (r : Nat → Rl) (i : Nat) : mvd r i i = r := by
  funext t
  unfold mvd
  by_cases c1 : t < i
  · rw [if_pos c1]
  · rw [if_neg c1, if_neg c1]
theorem mvd_tko (r : Nat → Rl) {i m t : Nat} (ht : t < m) : tko r i m t = mvd r i m t := by
  unfold tko mvd
  by_cases c1 : t < i
  · rw [if_pos c1, if_pos c1]
  · rw [if_neg c1, if_neg c1, if_pos ht, if_pos ht]
section MREMOVE
variable {l : Launch} {E : gE} {N : Nat} {M : gM} {W tn : Nat} {th sz lk rc pl fa : Int32} {ts : Nat → Nat} {mm kk : Nat → Nat} {rr : Nat → Nat → Rl} {gn : Nat} {gs : Nat → Nat}
theorem k_Mo_drop (h : M W = some (.inr (10, mo W th sz lk rc pl fa))) (hL : o_ml E M W mm rr) (j i : Nat) (hj : j < 2) (hi : i < mm j) : Ctr l E y_Mo_drop 1 [.ref W, .int (nI j), .int (nI i)] N M 0 0 (g_ret (fun v N' M' => v = none ∧ N' = N ∧ o_ml E M' W (va_up mm j (mm j - 1)) (va_up rr j (tko (rr j) i (mm j - 1))) ∧ ∀ x, (x < W + 2 ∨ W + 5 < x) → M' x = M x)) := by
  have hR := hL.rows
  obtain ⟨h1, -, -, -, fc, c1, c2⟩ := hL
  have hm := (h1 j hj).1
  refine ctr_of [some (.ref W), some (.int (nI j)), some (.int (nI i)), none] (by decide) w_1040 rfl rfl (Nat.le_of_ble_eq_true rfl) (fun Γ => ?_)
  refine g_aload_n d_Mo_drop_0 rfl ?_
  refine g_get f_Mo_22 (by assumption) rfl d_Mo_drop_1 ?_
  refine g_iload_n d_Mo_drop_4 rfl ?_
  refine g_dup2 d_Mo_drop_5 rfl rfl ?_
  refine g_iald _ (by assumption) rfl (by omega) (by decide) d_Mo_drop_6 ?_
  refine g_eqi (c2 j hj) ?_
  refine g_iconst (v := nI 1) d_Mo_drop_7 (by decide) ?_
  refine g_isub d_Mo_drop_8 ?_
  refine g_eqi (z := nI (mm j - 1)) (pk_sub (by omega)) ?_
  refine g_iast _ (by assumption) rfl (by omega) (by decide) d_Mo_drop_9 ?_
  refine g_nm (fun M1 e1 f1 => ?_)
  have hR1 := hR.kept (M' := M1) (fun x _ _ => f1 x (by omega))
  have g1 := (f1 W (by omega)).trans h
  refine g_iload_n d_Mo_drop_10 rfl ?_
  refine g_istore_n d_Mo_drop_11 (by decide) ?_
  refine g_for (P := fun k => i ≤ k → ∀ (M2 : gM), o_mR E M2 W mm (va_up rr j (mvd (rr j) i k)) → (∀ x, x ≠ W + 2 → x ≠ W + 3 → x ≠ W + 4 → M2 x = M1 x) → G _ _ _ _ _ _ _ _ _ _ _ _ 12 [some (.ref W), some (.int (nI j)), some (.int (nI i)), some (.int (nI k))] [] N M2 0 0) (e := mm j - 1) ?_ ?_ i (by omega) (by omega) M1 ?_ (fun _ _ _ _ => rfl)
  · intro hik M2 hR2 hf2
    have g2 := (hf2 W (by omega) (by omega) (by omega)).trans g1
    have ec := (hf2 (W + 5) (by omega) (by omega) (by omega)).trans e1
    have hcnt : o_mc E M2 W (va_up mm j (mm j - 1)) := by
      refine ⟨_, ec, fun t ht => ?_⟩
      by_cases e : t = j
      · subst e; rw [pk_us, va_up_self]
      · rw [pk_un e, va_up_ne _ _ e]; exact c2 t ht
    refine g_iload_n d_Mo_drop_12 rfl ?_
    refine g_aload_n d_Mo_drop_13 rfl ?_
    refine g_get f_Mo_22 (by assumption) rfl d_Mo_drop_14 ?_
    refine g_iload_n d_Mo_drop_17 rfl ?_
    refine g_iald _ (by assumption) rfl (by omega) (by decide) d_Mo_drop_18 ?_
    refine g_eqi (z := nI (mm j - 1)) pk_us ?_
    refine g_icmpN_ge (tgt := 37) d_Mo_drop_19 (by decide) (by omega) (by omega) (fun hb_19 => ?_) (fun hb_19 => ?_)
    · refine g_return rfl (by omega) (by omega) d_Mo_drop_37 ⟨_, rfl, rfl, rfl, o_ml.of2 (fun t ht => ?_) hR2 (fun t k ht hk => ?_) hcnt, fun x hx => (hf2 x (by omega) (by omega) (by omega)).trans (f1 x (by omega))⟩
      · by_cases e : t = j
        · subst e
          rw [va_up_self, va_up_self]
          refine ⟨by omega, fun k hk => ?_⟩
          rw [mvd_tko _ hk]
          unfold mvd
          split
          · exact (h1 t ht).2 k (by omega)
          · exact (h1 t ht).2 (k + 1) (by omega)
        · rw [va_up_ne _ _ e, va_up_ne _ _ e]
          exact h1 t ht
      · by_cases e : t = j
        · subst e
          rw [va_up_self] at hk ⊢
          rw [va_up_self]
          exact ⟨by omega, mvd_tko _ hk⟩
        · rw [va_up_ne _ _ e] at hk ⊢
          rw [va_up_ne _ _ e]
          exact ⟨hk, rfl⟩
    · omega
  · intro k hk ih hik M2 hR2 hf2
    have g2 := (hf2 W (by omega) (by omega) (by omega)).trans g1
    have ec := (hf2 (W + 5) (by omega) (by omega) (by omega)).trans e1
    refine g_iload_n d_Mo_drop_12 rfl ?_
    refine g_aload_n d_Mo_drop_13 rfl ?_
    refine g_get f_Mo_22 (by assumption) rfl d_Mo_drop_14 ?_
    refine g_iload_n d_Mo_drop_17 rfl ?_
    refine g_iald _ (by assumption) rfl (by omega) (by decide) d_Mo_drop_18 ?_
    refine g_eqi (z := nI (mm j - 1)) pk_us ?_
    refine g_icmpN_ge (tgt := 37) d_Mo_drop_19 (by decide) (by omega) (by omega) (fun hb_19 => ?_) (fun hb_19 => ?_)
    · omega
    refine g_aload_n d_Mo_drop_22 rfl ?_
    refine g_iload_n d_Mo_drop_23 rfl ?_
    refine g_iload_n d_Mo_drop_24 rfl ?_
    refine g_iconst (v := nI 1) d_Mo_drop_25 (by decide) ?_
    refine g_iadd d_Mo_drop_26 ?_
    refine g_eqi (nI_add _ _) ?_
    refine g_iload_n d_Mo_drop_27 rfl ?_
    refine g_callV s_Mo_119 sv_Mo_move (by assumption) rfl (k_Mo_moveR g2 hR2 (fun j hj => (h1 j hj).1) j (k + 1) k hj (by omega) (by omega) (by omega)) (by omega) rfl (by omega) (by omega) rfl (Nat.le_of_ble_eq_true rfl) d_Mo_drop_28 ?_
    rintro v' N' M3 ⟨rfl, rfl, hR3, hf3⟩
    rw [va_up_self, va_up2, mvd_step _ hik] at hR3
    refine g_iinc1 d_Mo_drop_31 rfl (by decide) ?_
    refine g_goto (tgt := 12) d_Mo_drop_34 (by decide) ?_
    exact ih (by omega) M3 hR3 (fun x x1 x2 x3 => (hf3 x x1 x2 x3).trans (hf2 x x1 x2 x3))
  · rw [mvd_0]
    have e : va_up rr j (rr j) = rr := by
      funext t
      by_cases e : t = j
      · subst e; rw [va_up_self]
      · rw [va_up_ne _ _ e]
    rw [e]
    exact hR1
theorem k_Mo_remove (h : OM E M W th tn ts mm rr gn gs) (j i : Nat) (hj : j < 2) (hi : i < mm j) : Ctr l E y_Mo_remove 2 [.ref W, .int (nI j), .int (nI i)] N M 0 0 (g_ret (fun v N' M' => v = none ∧ N' = N ∧ OM E M' W (nI 0) tn ts (va_up mm j (mm j - 1)) (va_up rr j (tko (rr j) i (mm j - 1))) gn gs ∧ ∀ x, (x < W ∨ W + 12 < x) → M' x = M x)) := by
  obtain ⟨⟨rc, pl, fa, hO⟩, hT, hL, hK, hS⟩ := h
  have hin := inI_yes (j := j) (k := 1) (by omega) (by omega)
  have hnr := fun (N : Nat) => k_Mo_noRule (l := l) (N := N) hO hL.2.2.2.2 j hj (nI i)
  rw [inC_yes hi (hL.1 j hj).1] at hnr
  refine ctr_of [some (.ref W), some (.int (nI j)), some (.int (nI i))] (by decide) w_1032 rfl rfl (Nat.le_of_ble_eq_true rfl) (fun Γ => ?_)
  refine g_aload_n d_Mo_remove_0 rfl ?_
  refine g_iload_n d_Mo_remove_1 rfl ?_
  refine g_iconst (v := nI 0) d_Mo_remove_2 (by decide) ?_
  refine g_iconst (v := nI 1) d_Mo_remove_3 (by decide) ?_
  refine g_callS s_Mo_112 sv_Mo_in (g_of_val (k_Mo_in _ _ _)) (by omega) rfl (by omega) (by omega) rfl (Nat.le_of_ble_eq_true rfl) d_Mo_remove_4 ?_
  rintro _ _ _ ⟨rfl, rfl, rfl⟩
  first | refine g_ifB_ne (tgt := 14) d_Mo_remove_7 (by decide) (fun hb_7 => ?_) (fun hb_7 => ?_) | refine g_ifN_ne (tgt := 14) d_Mo_remove_7 (by decide) (by omega) (fun hb_7 => ?_) (fun hb_7 => ?_)
  · refine g_iconst (v := nI 0) d_Mo_remove_14 (by decide) ?_
    refine g_aload_n d_Mo_remove_15 rfl ?_
    refine g_iload_n d_Mo_remove_16 rfl ?_
    refine g_iload_n d_Mo_remove_17 rfl ?_
    refine g_callV s_Mo_123 sv_Mo_noRule (by assumption) rfl (g_of_val (hnr _)) (by omega) rfl (by omega) (by omega) rfl (Nat.le_of_ble_eq_true rfl) d_Mo_remove_18 ?_
    rintro _ _ _ ⟨rfl, rfl, rfl⟩
    refine g_callV s_Mo_57 sv_Mo_refuse (by assumption) rfl (k_Mo_refuse hO false (!true)) (by omega) rfl (by omega) (by omega) rfl (Nat.le_of_ble_eq_true rfl) d_Mo_remove_21 ?_
    rintro v' N' M1 ⟨rfl, rfl, e1, f1⟩
    have hL1 := hL.kept (M' := M1) (fun x _ _ => f1 x (by omega))
    first | refine g_ifB_ne (tgt := 33) d_Mo_remove_24 (by decide) (fun hb_24 => ?_) (fun hb_24 => ?_) | refine g_ifN_ne (tgt := 33) d_Mo_remove_24 (by decide) (by omega) (fun hb_24 => ?_) (fun hb_24 => ?_)
    · exact absurd hb_24 (by decide)
    · refine g_aload_n d_Mo_remove_27 rfl ?_
      refine g_iload_n d_Mo_remove_28 rfl ?_
      refine g_iload_n d_Mo_remove_29 rfl ?_
      refine g_callV s_Mo_127 sv_Mo_drop (by assumption) rfl (k_Mo_drop e1 hL1 j i hj hi) (by omega) rfl (by omega) (by omega) rfl (Nat.le_of_ble_eq_true rfl) d_Mo_remove_30 ?_
      rintro v' N' M2 ⟨rfl, rfl, hL2, f2⟩
      exact g_return rfl (by omega) (by omega) d_Mo_remove_33 ⟨_, rfl, rfl, rfl, ⟨⟨rc, pl, fa, (f2 _ (by omega)).trans e1⟩, hT.kept ((f2 _ (by omega)).trans (f1 _ (by omega))), hL2, hK.kept ((f2 _ (by omega)).trans (f1 _ (by omega))), hS.kept (fun x _ _ => (f2 x (by omega)).trans (f1 x (by omega)))⟩, fun x hx => (f2 x (by omega)).trans (f1 x (by omega))⟩
  · rw [hin] at hb_7; cases hb_7
theorem x_Mo_remove (h : OM E M W th tn ts mm rr gn gs) (j : Nat) (hj : j < 2) (y : Int32) (hy : noN y (mm j)) : Ctr l E y_Mo_remove 2 [.ref W, .int (nI j), .int y] N M 0 0 (g_ret (fun v N' M' => v = none ∧ N' = N ∧ OM E M' W (nI 2) tn ts mm rr gn gs ∧ ∀ x, x ≠ W → M' x = M x)) := by
  have h0 := h
  obtain ⟨⟨rc, pl, fa, hO⟩, hT, hL, hK, hS⟩ := h
  have hin := inI_yes (j := j) (k := 1) (by omega) (by omega)
  have hnr := fun (N : Nat) => k_Mo_noRule (l := l) (N := N) hO hL.2.2.2.2 j hj y
  rw [inC_no hy (hL.1 j hj).1] at hnr
  refine ctr_of [some (.ref W), some (.int (nI j)), some (.int y)] (by decide) w_1032 rfl rfl (Nat.le_of_ble_eq_true rfl) (fun Γ => ?_)
  refine g_aload_n d_Mo_remove_0 rfl ?_
  refine g_iload_n d_Mo_remove_1 rfl ?_
  refine g_iconst (v := nI 0) d_Mo_remove_2 (by decide) ?_
  refine g_iconst (v := nI 1) d_Mo_remove_3 (by decide) ?_
  refine g_callS s_Mo_112 sv_Mo_in (g_of_val (k_Mo_in _ _ _)) (by omega) rfl (by omega) (by omega) rfl (Nat.le_of_ble_eq_true rfl) d_Mo_remove_4 ?_
  rintro _ _ _ ⟨rfl, rfl, rfl⟩
  first | refine g_ifB_ne (tgt := 14) d_Mo_remove_7 (by decide) (fun hb_7 => ?_) (fun hb_7 => ?_) | refine g_ifN_ne (tgt := 14) d_Mo_remove_7 (by decide) (by omega) (fun hb_7 => ?_) (fun hb_7 => ?_)
  · refine g_iconst (v := nI 0) d_Mo_remove_14 (by decide) ?_
    refine g_aload_n d_Mo_remove_15 rfl ?_
    refine g_iload_n d_Mo_remove_16 rfl ?_
    refine g_iload_n d_Mo_remove_17 rfl ?_
    refine g_callV s_Mo_123 sv_Mo_noRule (by assumption) rfl (g_of_val (hnr _)) (by omega) rfl (by omega) (by omega) rfl (Nat.le_of_ble_eq_true rfl) d_Mo_remove_18 ?_
    rintro _ _ _ ⟨rfl, rfl, rfl⟩
    refine g_callV s_Mo_57 sv_Mo_refuse (by assumption) rfl (k_Mo_refuse hO false (!false)) (by omega) rfl (by omega) (by omega) rfl (Nat.le_of_ble_eq_true rfl) d_Mo_remove_21 ?_
    rintro v' N' M1 ⟨rfl, rfl, e1, f1⟩
    first | refine g_ifB_ne (tgt := 33) d_Mo_remove_24 (by decide) (fun hb_24 => ?_) (fun hb_24 => ?_) | refine g_ifN_ne (tgt := 33) d_Mo_remove_24 (by decide) (by omega) (fun hb_24 => ?_) (fun hb_24 => ?_)
    · exact g_return rfl (by omega) (by omega) d_Mo_remove_33 ⟨_, rfl, rfl, rfl, h0.own e1 f1, f1⟩
    · exact absurd hb_24 (by decide)
  · rw [hin] at hb_7; cases hb_7
theorem xl_Mo_remove (h : OM E M W th tn ts mm rr gn gs) (x y : Int32) (hx : noN x 2) : Ctr l E y_Mo_remove 2 [.ref W, .int x, .int y] N M 0 0 (g_ret (fun v N' M' => v = none ∧ N' = N ∧ OM E M' W (nI 1) tn ts mm rr gn gs ∧ ∀ x, x ≠ W → M' x = M x)) := by
  have h0 := h
  obtain ⟨⟨rc, pl, fa, hO⟩, hT, hL, hK, hS⟩ := h
  have hin := inI_no (k := 1) hx (by omega)
  refine ctr_of [some (.ref W), some (.int x), some (.int y)] (by decide) w_1032 rfl rfl (Nat.le_of_ble_eq_true rfl) (fun Γ => ?_)
  refine g_aload_n d_Mo_remove_0 rfl ?_
  refine g_iload_n d_Mo_remove_1 rfl ?_
  refine g_iconst (v := nI 0) d_Mo_remove_2 (by decide) ?_
  refine g_iconst (v := nI 1) d_Mo_remove_3 (by decide) ?_
  refine g_callS s_Mo_112 sv_Mo_in (g_of_val (k_Mo_in _ _ _)) (by omega) rfl (by omega) (by omega) rfl (Nat.le_of_ble_eq_true rfl) d_Mo_remove_4 ?_
  rintro _ _ _ ⟨rfl, rfl, rfl⟩
  first | refine g_ifB_ne (tgt := 14) d_Mo_remove_7 (by decide) (fun hb_7 => ?_) (fun hb_7 => ?_) | refine g_ifN_ne (tgt := 14) d_Mo_remove_7 (by decide) (by omega) (fun hb_7 => ?_) (fun hb_7 => ?_)
  · rw [hin] at hb_7; cases hb_7
  · refine g_iconst (v := nI 1) d_Mo_remove_10 (by decide) ?_
    refine g_goto (tgt := 15) d_Mo_remove_11 (by decide) ?_
    refine g_aload_n d_Mo_remove_15 rfl ?_
    refine g_iload_n d_Mo_remove_16 rfl ?_
    refine g_iload_n d_Mo_remove_17 rfl ?_
    refine g_callV s_Mo_123 sv_Mo_noRule (by assumption) rfl (g_of_val (kx_Mo_noRule hO x y hx)) (by omega) rfl (by omega) (by omega) rfl (Nat.le_of_ble_eq_true rfl) d_Mo_remove_18 ?_
    rintro _ _ _ ⟨rfl, rfl, rfl⟩
    refine g_callV s_Mo_57 sv_Mo_refuse (by assumption) rfl (k_Mo_refuse hO true false) (by omega) rfl (by omega) (by omega) rfl (Nat.le_of_ble_eq_true rfl) d_Mo_remove_21 ?_
    rintro v' N' M1 ⟨rfl, rfl, e1, f1⟩
    first | refine g_ifB_ne (tgt := 33) d_Mo_remove_24 (by decide) (fun hb_24 => ?_) (fun hb_24 => ?_) | refine g_ifN_ne (tgt := 33) d_Mo_remove_24 (by decide) (by omega) (fun hb_24 => ?_) (fun hb_24 => ?_)
    · exact g_return rfl (by omega) (by omega) d_Mo_remove_33 ⟨_, rfl, rfl, rfl, h0.own e1 f1, f1⟩
    · exact absurd hb_24 (by decide)
end MREMOVE

