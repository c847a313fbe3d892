/-! the model's connections -/
section MLINKS
variable {l : Launch} {E : gE} {N : Nat} {M : gM} {W tn : Nat} {th sz lk rc pl fa : Int32} {ts : Nat → Nat} {mm kk : Nat → Nat} {rr : Nat → Nat → Rl} {gn : Nat} {gs : Nat → Nat}
theorem pkt_pv {p : Nat} (hp : p < 268435456) : pkt (pv p 0) (pv p 1) (pv p 2) (pv p 3) = p := by
  show (p / 1048576 % 256) * 1048576 + (p / 4096 % 256) * 4096 + (p / 4 % 1024) * 4 + (p / 1 % 4) = p
  omega
theorem pkt_inj {p a b c d : Nat} (hp : p < 268435456) (ha : a ≤ 255) (hb : b ≤ 255) (hc : c ≤ 1023) (hd : d ≤ 3) : p = pkt a b c d ↔ pv p 0 = a ∧ pv p 1 = b ∧ pv p 2 = c ∧ pv p 3 = d := by
  constructor
  · rintro rfl
    exact ⟨pv_0 ha hb hc hd, pv_1 ha hb hc hd, pv_2 ha hb hc hd, pv_3 ha hb hc hd⟩
  · rintro ⟨rfl, rfl, rfl, rfl⟩
    exact (pkt_pv hp).symm
theorem k_Mo_isLink (h : M W = some (.inr (10, mo W th sz lk rc pl fa))) (hK : o_mk E M W gn gs) (k a b c d : Nat) (hk : k < gn) (ha : a ≤ 255) (hb : b ≤ 255) (hc : c ≤ 1023) (hd : d ≤ 3) : Ctr l E y_Mo_isLink 0 [.ref W, .int (nI k), .int (nI a), .int (nI b), .int (nI c), .int (nI d)] N M 0 0 (g_val (some (.int (bI (decide (gs k = pkt a b c d))))) N M) := by
  obtain ⟨h1, h2, fk, h3, h4⟩ := hK
  have hgs := h2 k hk
  have hiff := pkt_inj hgs ha hb hc hd
  have p0 : pv (gs k) 0 < 1024 := Nat.lt_of_le_of_lt (pv_le _ 0 (by omega)) (mst_lt 0)
  have p1 : pv (gs k) 1 < 1024 := Nat.lt_of_le_of_lt (pv_le _ 1 (by omega)) (mst_lt 1)
  have p2 : pv (gs k) 2 < 1024 := Nat.lt_of_le_of_lt (pv_le _ 2 (by omega)) (mst_lt 2)
  have p3 : pv (gs k) 3 < 1024 := Nat.lt_of_le_of_lt (pv_le _ 3 (by omega)) (mst_lt 3)
  refine ctr_of [some (.ref W), some (.int (nI k)), some (.int (nI a)), some (.int (nI b)), some (.int (nI c)), some (.int (nI d))] (by decide) w_1166 rfl rfl (Nat.le_of_ble_eq_true rfl) (fun Γ => ?_)
  refine g_aload_n d_Mo_isLink_0 rfl ?_
  refine g_get f_Mo_25 (by assumption) rfl d_Mo_isLink_1 ?_
  refine g_iconst (v := nI 4) d_Mo_isLink_4 (by decide) ?_
  refine g_iload_n d_Mo_isLink_5 rfl ?_
  refine g_imul d_Mo_isLink_6 ?_
  refine g_eqi (pk_mul _ _) ?_
  refine g_iald _ (by assumption) rfl (by omega) (by decide) d_Mo_isLink_7 ?_
  refine g_eqi (h4 k 0 hk (by omega)) ?_
  refine g_iload_n d_Mo_isLink_8 rfl ?_
  refine g_icmpN_ne (tgt := 60) d_Mo_isLink_9 (by decide) (by omega) (by omega) (fun hb_9 => ?_) (fun hb_9 => ?_)
  · refine g_iconst (v := nI 0) d_Mo_isLink_60 (by decide) ?_
    refine g_Fa (b := decide (gs k = pkt a b c d)) (decide_eq_false (fun q => hb_9 (hiff.mp q).1)) ?_
    exact g_ireturn rfl (by first | rfl | exact bI_nar _) (by omega) (by omega) d_Mo_isLink_61 ⟨rfl, rfl, rfl⟩
  refine g_aload_n d_Mo_isLink_12 rfl ?_
  refine g_get f_Mo_25 (by assumption) rfl d_Mo_isLink_13 ?_
  refine g_iconst (v := nI 4) d_Mo_isLink_16 (by decide) ?_
  refine g_iload_n d_Mo_isLink_17 rfl ?_
  refine g_imul d_Mo_isLink_18 ?_
  refine g_eqi (pk_mul _ _) ?_
  refine g_iconst (v := nI 1) d_Mo_isLink_19 (by decide) ?_
  refine g_iadd d_Mo_isLink_20 ?_
  refine g_eqi (nI_add _ _) ?_
  refine g_iald _ (by assumption) rfl (by omega) (by decide) d_Mo_isLink_21 ?_
  refine g_eqi (h4 k 1 hk (by omega)) ?_
  refine g_iload_n d_Mo_isLink_22 rfl ?_
  refine g_icmpN_ne (tgt := 60) d_Mo_isLink_23 (by decide) (by omega) (by omega) (fun hb_23 => ?_) (fun hb_23 => ?_)
  · refine g_iconst (v := nI 0) d_Mo_isLink_60 (by decide) ?_
    refine g_Fa (b := decide (gs k = pkt a b c d)) (decide_eq_false (fun q => hb_23 (hiff.mp q).2.1)) ?_
    exact g_ireturn rfl (by first | rfl | exact bI_nar _) (by omega) (by omega) d_Mo_isLink_61 ⟨rfl, rfl, rfl⟩
  refine g_aload_n d_Mo_isLink_26 rfl ?_
  refine g_get f_Mo_25 (by assumption) rfl d_Mo_isLink_27 ?_
  refine g_iconst (v := nI 4) d_Mo_isLink_30 (by decide) ?_
  refine g_iload_n d_Mo_isLink_31 rfl ?_
  refine g_imul d_Mo_isLink_32 ?_
  refine g_eqi (pk_mul _ _) ?_
  refine g_iconst (v := nI 2) d_Mo_isLink_33 (by decide) ?_
  refine g_iadd d_Mo_isLink_34 ?_
  refine g_eqi (nI_add _ _) ?_
  refine g_iald _ (by assumption) rfl (by omega) (by decide) d_Mo_isLink_35 ?_
  refine g_eqi (h4 k 2 hk (by omega)) ?_
  refine g_iload d_Mo_isLink_36 rfl ?_
  refine g_icmpN_ne (tgt := 60) d_Mo_isLink_38 (by decide) (by omega) (by omega) (fun hb_38 => ?_) (fun hb_38 => ?_)
  · refine g_iconst (v := nI 0) d_Mo_isLink_60 (by decide) ?_
    refine g_Fa (b := decide (gs k = pkt a b c d)) (decide_eq_false (fun q => hb_38 (hiff.mp q).2.2.1)) ?_
    exact g_ireturn rfl (by first | rfl | exact bI_nar _) (by omega) (by omega) d_Mo_isLink_61 ⟨rfl, rfl, rfl⟩
  refine g_aload_n d_Mo_isLink_41 rfl ?_
  refine g_get f_Mo_25 (by assumption) rfl d_Mo_isLink_42 ?_
  refine g_iconst (v := nI 4) d_Mo_isLink_45 (by decide) ?_
  refine g_iload_n d_Mo_isLink_46 rfl ?_
  refine g_imul d_Mo_isLink_47 ?_
  refine g_eqi (pk_mul _ _) ?_
  refine g_iconst (v := nI 3) d_Mo_isLink_48 (by decide) ?_
  refine g_iadd d_Mo_isLink_49 ?_
  refine g_eqi (nI_add _ _) ?_
  refine g_iald _ (by assumption) rfl (by omega) (by decide) d_Mo_isLink_50 ?_
  refine g_eqi (h4 k 3 hk (by omega)) ?_
  refine g_iload d_Mo_isLink_51 rfl ?_
  refine g_icmpN_ne (tgt := 60) d_Mo_isLink_53 (by decide) (by omega) (by omega) (fun hb_53 => ?_) (fun hb_53 => ?_)
  · refine g_iconst (v := nI 0) d_Mo_isLink_60 (by decide) ?_
    refine g_Fa (b := decide (gs k = pkt a b c d)) (decide_eq_false (fun q => hb_53 (hiff.mp q).2.2.2)) ?_
    exact g_ireturn rfl (by first | rfl | exact bI_nar _) (by omega) (by omega) d_Mo_isLink_61 ⟨rfl, rfl, rfl⟩
  · refine g_iconst (v := nI 1) d_Mo_isLink_56 (by decide) ?_
    refine g_goto (tgt := 61) d_Mo_isLink_57 (by decide) ?_
    refine g_Tr (b := decide (gs k = pkt a b c d)) (decide_eq_true (hiff.mpr ⟨hb_9, hb_23, hb_38, hb_53⟩)) ?_
    exact g_ireturn rfl (by first | rfl | exact bI_nar _) (by omega) (by omega) d_Mo_isLink_61 ⟨rfl, rfl, rfl⟩
theorem k_Mo_link (h : M W = some (.inr (10, mo W th sz (nI gn) rc pl fa))) (hK : o_mk E M W gn gs) (hg : gn < 4) (p a b c d : Nat) (ep : p = pkt a b c d) (ha : a ≤ 255) (hb : b ≤ 255) (hc : c ≤ 1023) (hd : d ≤ 3) : Ctr l E y_Mo_link 0 [.ref W, .int (nI a), .int (nI b), .int (nI c), .int (nI d)] N M 0 0 (g_ret (fun v N' M' => v = none ∧ N' = N ∧ M' W = some (.inr (10, mo W th sz (nI (gn + 1)) rc pl fa)) ∧ o_mk E M' W (gn + 1) (va_up gs gn p) ∧ ∀ x, x ≠ W → x ≠ W + 6 → M' x = M x)) := by
  obtain ⟨h1, h2, fk, h3, h4⟩ := hK
  have hpv := (pkt_inj (p := p) (by rw [ep]; exact pkt_lt ha hb hc hd) ha hb hc hd).mp ep
  refine ctr_of [some (.ref W), some (.int (nI a)), some (.int (nI b)), some (.int (nI c)), some (.int (nI d))] (by decide) w_1174 rfl rfl (Nat.le_of_ble_eq_true rfl) (fun Γ => ?_)
  refine g_aload_n d_Mo_link_0 rfl ?_
  refine g_get f_Mo_25 (by assumption) rfl d_Mo_link_1 ?_
  refine g_iconst (v := nI 4) d_Mo_link_4 (by decide) ?_
  refine g_aload_n d_Mo_link_5 rfl ?_
  refine g_get f_Mo_185 (by assumption) rfl d_Mo_link_6 ?_
  refine g_imul d_Mo_link_9 ?_
  refine g_eqi (pk_mul _ _) ?_
  refine g_iload_n d_Mo_link_10 rfl ?_
  refine g_iast _ (by assumption) rfl (by omega) (by decide) d_Mo_link_11 ?_
  refine g_nm (fun M1 e1 f1 => ?_)
  have g1 := (f1 W (by omega)).trans h
  refine g_aload_n d_Mo_link_12 rfl ?_
  refine g_get f_Mo_25 (by assumption) rfl d_Mo_link_13 ?_
  refine g_iconst (v := nI 4) d_Mo_link_16 (by decide) ?_
  refine g_aload_n d_Mo_link_17 rfl ?_
  refine g_get f_Mo_185 (by assumption) rfl d_Mo_link_18 ?_
  refine g_imul d_Mo_link_21 ?_
  refine g_eqi (pk_mul _ _) ?_
  refine g_iconst (v := nI 1) d_Mo_link_22 (by decide) ?_
  refine g_iadd d_Mo_link_23 ?_
  refine g_eqi (nI_add _ _) ?_
  refine g_iload_n d_Mo_link_24 rfl ?_
  refine g_iast _ (by assumption) rfl (by omega) (by decide) d_Mo_link_25 ?_
  refine g_nm (fun M2 e2 f2 => ?_)
  have g2 := (f2 W (by omega)).trans g1
  refine g_aload_n d_Mo_link_26 rfl ?_
  refine g_get f_Mo_25 (by assumption) rfl d_Mo_link_27 ?_
  refine g_iconst (v := nI 4) d_Mo_link_30 (by decide) ?_
  refine g_aload_n d_Mo_link_31 rfl ?_
  refine g_get f_Mo_185 (by assumption) rfl d_Mo_link_32 ?_
  refine g_imul d_Mo_link_35 ?_
  refine g_eqi (pk_mul _ _) ?_
  refine g_iconst (v := nI 2) d_Mo_link_36 (by decide) ?_
  refine g_iadd d_Mo_link_37 ?_
  refine g_eqi (nI_add _ _) ?_
  refine g_iload_n d_Mo_link_38 rfl ?_
  refine g_iast _ (by assumption) rfl (by omega) (by decide) d_Mo_link_39 ?_
  refine g_nm (fun M3 e3 f3 => ?_)
  have g3 := (f3 W (by omega)).trans g2
  refine g_aload_n d_Mo_link_40 rfl ?_
  refine g_get f_Mo_25 (by assumption) rfl d_Mo_link_41 ?_
  refine g_iconst (v := nI 4) d_Mo_link_44 (by decide) ?_
  refine g_aload_n d_Mo_link_45 rfl ?_
  refine g_get f_Mo_185 (by assumption) rfl d_Mo_link_46 ?_
  refine g_imul d_Mo_link_49 ?_
  refine g_eqi (pk_mul _ _) ?_
  refine g_iconst (v := nI 3) d_Mo_link_50 (by decide) ?_
  refine g_iadd d_Mo_link_51 ?_
  refine g_eqi (nI_add _ _) ?_
  refine g_iload d_Mo_link_52 rfl ?_
  refine g_iast _ (by assumption) rfl (by omega) (by decide) d_Mo_link_54 ?_
  refine g_nm (fun M4 e4 f4 => ?_)
  have g4 := (f4 W (by omega)).trans g3
  refine g_aload_n d_Mo_link_55 rfl ?_
  refine g_dup d_Mo_link_56 rfl ?_
  refine g_get f_Mo_185 (by assumption) rfl d_Mo_link_57 ?_
  refine g_iconst (v := nI 1) d_Mo_link_60 (by decide) ?_
  refine g_iadd d_Mo_link_61 ?_
  refine g_eqi (nI_add _ _) ?_
  refine g_put p_Mo_185 (by assumption) (Nat.le_of_ble_eq_true rfl) rfl rfl d_Mo_link_62 ?_
  refine g_nm (fun M5 e5 f5 => ?_)
  refine g_return rfl (by omega) (by omega) d_Mo_link_65 ⟨_, rfl, rfl, rfl, e5, ⟨by omega, fun k hk => ?_, _, (f5 _ (by omega)).trans e4, fun k f hk hf => ?_⟩, fun x x1 x2 => (f5 x x1).trans ((f4 x x2).trans ((f3 x x2).trans ((f2 x x2).trans (f1 x x2))))⟩
  · by_cases e : k = gn
    · subst e; rw [va_up_self, ep]; exact pkt_lt ha hb hc hd
    · rw [va_up_ne _ _ e]; exact h2 k (by omega)
  · by_cases e : k = gn
    · subst e
      rw [va_up_self]
      have hf4 : f = 0 ∨ f = 1 ∨ f = 2 ∨ f = 3 := by omega
      rcases hf4 with rfl | rfl | rfl | rfl
      · rw [pk_un (by omega), pk_un (by omega), pk_un (by omega), hpv.1]; exact pk_us
      · rw [pk_un (by omega), pk_un (by omega), pk_us, hpv.2.1]
      · rw [pk_un (by omega), pk_us, hpv.2.2.1]
      · rw [pk_us, hpv.2.2.2]
    · rw [va_up_ne _ _ e, pk_un (by omega), pk_un (by omega), pk_un (by omega), pk_un (by omega)]
      exact h4 k f (by omega) hf
theorem k_Mo_unlink (h : M W = some (.inr (10, mo W th sz (nI gn) rc pl fa))) (hK : o_mk E M W gn gs) (i : Nat) (hi : i < gn) : Ctr l E y_Mo_unlink 0 [.ref W, .int (nI i)] N M 0 0 (g_ret (fun v N' M' => v = none ∧ N' = N ∧ M' W = some (.inr (10, mo W th sz (nI (gn - 1)) rc pl fa)) ∧ o_mk E M' W (gn - 1) (fun k => if k < i then gs k else gs (k + 1)) ∧ ∀ x, x ≠ W → x ≠ W + 6 → M' x = M x)) := by
  obtain ⟨h1, h2, fk, h3, h4⟩ := hK
  refine ctr_of [some (.ref W), some (.int (nI i)), none] (by decide) w_1170 rfl rfl (Nat.le_of_ble_eq_true rfl) (fun Γ => ?_)
  refine g_aload_n d_Mo_unlink_0 rfl ?_
  refine g_dup d_Mo_unlink_1 rfl ?_
  refine g_get f_Mo_185 (by assumption) rfl d_Mo_unlink_2 ?_
  refine g_iconst (v := nI 1) d_Mo_unlink_5 (by decide) ?_
  refine g_isub d_Mo_unlink_6 ?_
  refine g_eqi (z := nI (gn - 1)) (pk_sub (by omega)) ?_
  refine g_put p_Mo_185 (by assumption) (Nat.le_of_ble_eq_true rfl) rfl rfl d_Mo_unlink_7 ?_
  refine g_nm (fun M1 e1 f1 => ?_)
  refine g_iconst (v := nI 4) d_Mo_unlink_10 (by decide) ?_
  refine g_iload_n d_Mo_unlink_11 rfl ?_
  refine g_imul d_Mo_unlink_12 ?_
  refine g_eqi (pk_mul _ _) ?_
  refine g_istore_n d_Mo_unlink_13 (by decide) ?_
  refine g_for (P := fun t => 4 * i ≤ t → ∀ (M2 : gM) (f2 : Nat → Int32), M2 (W + 6) = some (g_ia E 16 f2) → (∀ x, x < 4 * i → f2 x = fk x) → (∀ x, 4 * i ≤ x → x < t → f2 x = fk (x + 4)) → (∀ x, t ≤ x → f2 x = fk x) → (∀ x, x ≠ W + 6 → M2 x = M1 x) → G _ _ _ _ _ _ _ _ _ _ _ _ 14 [some (.ref W), some (.int (nI i)), some (.int (nI t))] [] N M2 0 0) (e := 4 * (gn - 1)) ?_ ?_ (4 * i) (by omega) (by omega) M1 fk ((f1 _ (by omega)).trans h3) (fun _ _ => rfl) (fun x x1 x2 => by omega) (fun _ _ => rfl) (fun _ _ => rfl)
  · intro _ M2 f2 a1 a2 a3 a4 a5
    have g2 := (a5 W (by omega)).trans e1
    refine g_iload_n d_Mo_unlink_14 rfl ?_
    refine g_iconst (v := nI 4) d_Mo_unlink_15 (by decide) ?_
    refine g_aload_n d_Mo_unlink_16 rfl ?_
    refine g_get f_Mo_185 (by assumption) rfl d_Mo_unlink_17 ?_
    refine g_imul d_Mo_unlink_20 ?_
    refine g_eqi (pk_mul _ _) ?_
    refine g_icmpN_ge (tgt := 44) d_Mo_unlink_21 (by decide) (by omega) (by omega) (fun hb_21 => ?_) (fun hb_21 => ?_)
    · refine g_return rfl (by omega) (by omega) d_Mo_unlink_44 ⟨_, rfl, rfl, rfl, g2, ⟨by omega, fun k hk => ?_, f2, a1, fun k f hk hf => ?_⟩, fun x x1 x2 => (a5 x x2).trans (f1 x x1)⟩
      · show (if k < i then gs k else gs (k + 1)) < _
        split
        · exact h2 k (by omega)
        · exact h2 (k + 1) (by omega)
      · show _ = nI (pv (if k < i then gs k else gs (k + 1)) f)
        split
        · rw [a2 _ (by omega)]; exact h4 k f (by omega) hf
        · rw [a3 _ (by omega) (by omega), show 4 * k + f + 4 = 4 * (k + 1) + f by omega]
          exact h4 (k + 1) f (by omega) hf
    · omega
  · intro t ht ih h4i M2 f2 a1 a2 a3 a4 a5
    have g2 := (a5 W (by omega)).trans e1
    refine g_iload_n d_Mo_unlink_14 rfl ?_
    refine g_iconst (v := nI 4) d_Mo_unlink_15 (by decide) ?_
    refine g_aload_n d_Mo_unlink_16 rfl ?_
    refine g_get f_Mo_185 (by assumption) rfl d_Mo_unlink_17 ?_
    refine g_imul d_Mo_unlink_20 ?_
    refine g_eqi (pk_mul _ _) ?_
    refine g_icmpN_ge (tgt := 44) d_Mo_unlink_21 (by decide) (by omega) (by omega) (fun hb_21 => ?_) (fun hb_21 => ?_)
    · omega
    refine g_aload_n d_Mo_unlink_24 rfl ?_
    refine g_get f_Mo_25 (by assumption) rfl d_Mo_unlink_25 ?_
    refine g_iload_n d_Mo_unlink_28 rfl ?_
    refine g_aload_n d_Mo_unlink_29 rfl ?_
    refine g_get f_Mo_25 (by assumption) rfl d_Mo_unlink_30 ?_
    refine g_iload_n d_Mo_unlink_33 rfl ?_
    refine g_iconst (v := nI 4) d_Mo_unlink_34 (by decide) ?_
    refine g_iadd d_Mo_unlink_35 ?_
    refine g_eqi (nI_add _ _) ?_
    refine g_iald _ (by assumption) rfl (by omega) (by decide) d_Mo_unlink_36 ?_
    refine g_iast _ (by assumption) rfl (by omega) (by decide) d_Mo_unlink_37 ?_
    refine g_nm (fun M3 e3 f3 => ?_)
    refine g_iinc1 d_Mo_unlink_38 rfl (by decide) ?_
    refine g_goto (tgt := 14) d_Mo_unlink_41 (by decide) ?_
    refine ih (by omega) M3 _ e3 (fun x hx => ?_) (fun x x1 x2 => ?_) (fun x hx => ?_) (fun x hx => (f3 x hx).trans (a5 x hx))
    · rw [pk_un (by omega)]; exact a2 x hx
    · by_cases e : x = t
      · subst e; rw [pk_us]; exact a4 (x + 4) (by omega)
      · rw [pk_un e]; exact a3 x x1 (by omega)
    · rw [pk_un (by omega)]; exact a4 x (by omega)
end MLINKS

