/-! rules that were read keep to their fields -/
theorem r_ok_nrw {z : Rl} (h : r_ok z) {f a b : Nat} (h1 : a ≤ b) (h2 : b ≤ mst f) : r_ok (nrw z f a b) := by
  refine ⟨h.1, fun g hg => ?_⟩
  unfold nrw va_up
  by_cases e : g = f
  · show (if g = f then a else z.2.1 g) ≤ (if g = f then b else z.2.2 g) ∧ (if g = f then b else z.2.2 g) ≤ mst g
    rw [if_pos e, if_pos e, e]
    exact ⟨h1, h2⟩
  · show (if g = f then a else z.2.1 g) ≤ (if g = f then b else z.2.2 g) ∧ (if g = f then b else z.2.2 g) ≤ mst g
    rw [if_neg e, if_neg e]
    exact h.2 g hg
theorem bts_mst : ∀ f, f < 4 → 2 ^ bts f = mst f + 1 := by decide
theorem sRg_ok {n : Nat} {ts : Nat → Nat} {f a : Nat} {z : Rl} (hf : f < 4) (h : r_ok z) (hs : (sRg n ts f a z).1 = true) : r_ok (sRg n ts f a z).2.2 := by
  unfold sRg at hs ⊢
  split at hs
  · rw [if_pos (by assumption)]
    exact h
  · rename_i c1
    rw [if_neg c1]
    split at hs
    · rename_i c2
      rw [if_pos c2]
      have hnb := c2
      simp only [nb, Bool.and_eq_true, decide_eq_true_eq] at hnb
      split at hs
      · rename_i c3
        rw [if_pos c3]
        unfold sGr at hs ⊢
        split at hs
        · rename_i c4
          rw [if_pos c4]
          simp only [nb, Bool.and_eq_true, decide_eq_true_eq] at c4
          exact r_ok_nrw h c4.2.2.1 c4.2.2.2
        · cases hs
      · rename_i c3
        rw [if_neg c3]
        split at hs
        · rename_i c5
          rw [if_pos c5]
          unfold sHb at hs ⊢
          split at hs
          · rename_i c4
            rw [if_pos c4]
            simp only [nb, Bool.and_eq_true, decide_eq_true_eq] at c4
            have hb := bts_mst f hf
            generalize nv n ts a = v at hnb ⊢
            generalize nv n ts (nx n ts (nx n ts a)) = w at c4 ⊢
            have hp : 0 < 2 ^ (bts f - w) := Nat.two_pow_pos _
            have h3 : v / 2 ^ (bts f - w) < 2 ^ w := by
              rw [Nat.div_lt_iff_lt_mul hp, ← Nat.pow_add, show w + (bts f - w) = bts f by omega]
              omega
            have h4 : (v / 2 ^ (bts f - w) + 1) * 2 ^ (bts f - w) ≤ 2 ^ w * 2 ^ (bts f - w) := Nat.mul_le_mul_right _ h3
            rw [← Nat.pow_add, show w + (bts f - w) = bts f by omega, Nat.succ_mul] at h4
            refine r_ok_nrw h ?_ ?_
            · unfold hhi
              omega
            · unfold hhi hlo
              omega
          · cases hs
        · rename_i c5
          rw [if_neg c5]
          exact r_ok_nrw h (Nat.le_refl _) hnb.2.2.2
    · cases hs
theorem sFs_ok {n : Nat} {ts : Nat → Nat} : ∀ k told a z, r_ok z → (sFs n ts k told a z).1 = true → r_ok (sFs n ts k told a z).2.2 := by
  intro k
  induction k with
  | zero =>
    intro told a z hz hs
    unfold sFs at hs ⊢
    split at hs
    · rw [if_pos (by assumption)]
      exact hz
    · cases hs
  | succ k ih =>
    intro told a z hz hs
    unfold sFs at hs ⊢
    split at hs
    · rw [if_pos (by assumption)]
      exact hz
    · rename_i c1
      rw [if_neg c1]
      split at hs
      · rename_i c2
        rw [if_pos c2]
        split at hs
        · rename_i c3
          rw [if_pos c3]
          exact ih _ _ _ (sRg_ok c2.1 hz c3) hs
        · rename_i c3
          exact absurd hs c3
      · cases hs
theorem sRu_ok {n : Nat} {ts : Nat → Nat} {a : Nat} {z : Rl} (hs : (sRu n ts a z).1 = true) : r_ok (sRu n ts a z).2.2 := by
  unfold sRu at hs ⊢
  split at hs
  · rename_i c
    rw [if_pos c]
    exact sFs_ok _ _ _ _ ⟨c, fun f _ => ⟨Nat.zero_le _, Nat.le_refl _⟩⟩ hs
  · cases hs
theorem sTx_ge {n : Nat} {ts : Nat → Nat} : ∀ k c a rs, (sTx n ts k c a rs).1 = true → c ≤ (sTx n ts k c a rs).2.1 := by
  intro k
  induction k with
  | zero => intro c a rs _; exact Nat.le_refl _
  | succ k ih =>
    intro c a rs hs
    unfold sTx at hs ⊢
    split at hs
    · rw [if_pos (by assumption)]
      exact Nat.le_refl _
    · rename_i c1
      rw [if_neg c1]
      split at hs
      · rename_i c2
        rw [if_pos c2]
        have := ih _ _ _ hs
        omega
      · cases hs
theorem sTx_ok {n : Nat} {ts : Nat → Nat} : ∀ k c a rs, (∀ j, j < c → r_ok (rs j)) → (sTx n ts k c a rs).1 = true → (sTx n ts k c a rs).2.1 ≤ 8 → ∀ j, j < (sTx n ts k c a rs).2.1 → r_ok ((sTx n ts k c a rs).2.2 j) := by
  intro k
  induction k with
  | zero => intro c a rs h _ _ j hj; exact h j hj
  | succ k ih =>
    intro c a rs h hs h8
    unfold sTx at hs h8 ⊢
    split at hs
    · rename_i c1
      rw [if_pos c1]
      exact h
    · rename_i c1
      rw [if_neg c1] at h8 ⊢
      split at hs
      · rename_i c2
        rw [if_pos c2] at h8 ⊢
        have hge := sTx_ge _ _ _ _ hs
        refine ih _ _ _ (fun j hj => ?_) hs h8
        have e : min c 7 = c := by omega
        by_cases ej : j = min c 7
        · rw [ej, va_up_self]
          exact sRu_ok c2
        · rw [va_up_ne _ _ ej]
          exact h j (by omega)
      · cases hs
def prn (u : Nat → Nat) : Nat → Nat → (Nat → Rl) → Nat → Nat × (Nat → Rl) × Nat
  | 0, m, r, g => (m, r, g)
  | i + 1, m, r, g => if u i = 0 then prn u i (m - 1) (tko r i (m - 1)) (g + 1) else prn u i m r g
section CALLS3
variable {l : Launch} {E : gE} {N : Nat} {M : gM} {B tn : Nat} {ts : Nat → Nat} {mm : Nat → Nat} {rr : Nat → Nat → Rl} {gn : Nat} {gs : Nat → Nat}
theorem k_RD_put (h : OA E M B tn ts mm rr gn gs) (u : Nat) (hu : u < 2 ^ 32) (ho : okS u = true) (hr : tn + cnS u 4 ≤ 240) : Ctr l E y_RD_put 6 [.ref B, .int (nI u)] N M 0 0 (g_ret (fun w N' M' => w = some (.int (nI (tn + cnS u 4))) ∧ N' = N ∧ OA E M' B (tn + cnS u 4) (apT tn ts u 4) mm rr gn gs ∧ ∀ x, (x < B ∨ B + 151 < x) → M' x = M x)) := by
  have hB := h.1.1
  have hT := h.2.1
  have hTa := hT.1
  refine ctr_of [some (.ref B), some (.int (nI u))] (by decide) w_323 rfl rfl (Nat.le_of_ble_eq_true rfl) (fun Γ => ?_)
  refine g_iload_n d_RD_put_0 rfl ?_
  refine g_callS s_RD_57 sv_Tx_areSigns (g_of_val (k_Tx_areSigns u hu)) (by omega) rfl (by omega) (by omega) rfl (Nat.le_of_ble_eq_true rfl) d_RD_put_1 ?_
  rintro _ _ _ ⟨rfl, rfl, rfl⟩
  first | refine g_ifB_ne (tgt := 17) d_RD_put_4 (by decide) (fun hb_4 => ?_) (fun hb_4 => ?_) | refine g_ifN_ne (tgt := 17) d_RD_put_4 (by decide) (by omega) (fun hb_4 => ?_) (fun hb_4 => ?_)
  · refine g_aload_n d_RD_put_17 rfl ?_
    refine g_get f_RD_12 (by assumption) rfl d_RD_put_18 ?_
    refine g_iload_n d_RD_put_21 rfl ?_
    refine g_callV s_RD_68 sv_Tx_hasRoomFor (by assumption) rfl (g_of_val (k_Tx_hasRoomFor hT u hu)) (by omega) rfl (by omega) (by omega) rfl (Nat.le_of_ble_eq_true rfl) d_RD_put_22 ?_
    rintro _ _ _ ⟨rfl, rfl, rfl⟩
    first | refine g_ifB_ne (tgt := 38) d_RD_put_25 (by decide) (fun hb_25 => ?_) (fun hb_25 => ?_) | refine g_ifN_ne (tgt := 38) d_RD_put_25 (by decide) (by omega) (fun hb_25 => ?_) (fun hb_25 => ?_)
    · refine g_aload_n d_RD_put_38 rfl ?_
      refine g_get f_RD_12 (by assumption) rfl d_RD_put_39 ?_
      refine g_iload_n d_RD_put_42 rfl ?_
      refine g_callV s_RD_76 sv_Tx_append (by assumption) rfl (k_Tx_append hT u hu ho hr) (by omega) rfl (by omega) (by omega) rfl (Nat.le_of_ble_eq_true rfl) d_RD_put_43 ?_
      rintro v' N' M1 ⟨rfl, rfl, hT1, hf1⟩
      have hB1 := (hf1 B (by omega) (by omega)).trans hB
      have hT1a := hT1.1
      refine g_aload_n d_RD_put_46 rfl ?_
      refine g_get f_RD_12 (by assumption) rfl d_RD_put_47 ?_
      refine g_callV s_RD_80 sv_Tx_length (by assumption) rfl (g_of_val (k_Tx_length hT1)) (by omega) rfl (by omega) (by omega) rfl (Nat.le_of_ble_eq_true rfl) d_RD_put_50 ?_
      rintro _ _ _ ⟨rfl, rfl, rfl⟩
      exact g_ireturn rfl rfl (by omega) (by omega) d_RD_put_53 ⟨_, rfl, rfl, rfl, h.text hT1 hf1, fun x hx => hf1 x (by omega) (by omega)⟩
    · exact absurd hr (of_decide_eq_false hb_25)
  · rw [ho] at hb_4
    cases hb_4
theorem x_RD_put (h : OA E M B tn ts mm rr gn gs) (u : Nat) (hu : u < 2 ^ 32) (ho : okS u = false) : Ctr l E y_RD_put 6 [.ref B, .int (nI u)] N M 1 6 (t_thr 11 N M) := by
  refine ctr_of [some (.ref B), some (.int (nI u))] (by decide) w_323 rfl rfl (Nat.le_of_ble_eq_true rfl) (fun Γ => ?_)
  refine g_iload_n d_RD_put_0 rfl ?_
  refine g_callS s_RD_57 sv_Tx_areSigns (g_of_val (k_Tx_areSigns u hu)) (by omega) rfl (by omega) (by omega) rfl (Nat.le_of_ble_eq_true rfl) d_RD_put_1 ?_
  rintro _ _ _ ⟨rfl, rfl, rfl⟩
  first | refine g_ifB_ne (tgt := 17) d_RD_put_4 (by decide) (fun hb_4 => ?_) (fun hb_4 => ?_) | refine g_ifN_ne (tgt := 17) d_RD_put_4 (by decide) (by omega) (fun hb_4 => ?_) (fun hb_4 => ?_)
  · rw [ho] at hb_4
    cases hb_4
  · exact g_throw (i := 0) xa_Iae rfl rfl (by decide) w_328 w_329 w_15 rfl (by decide) (by omega) (by omega) (Nat.le_of_ble_eq_true rfl) d_RD_put_7 d_RD_put_10 d_RD_put_11 d_RD_put_13 d_RD_put_16 ⟨_, rfl, rfl, rfl, rfl⟩
theorem xr_RD_put (h : OA E M B tn ts mm rr gn gs) (u : Nat) (hu : u < 2 ^ 32) (ho : okS u = true) (hr : 240 < tn + cnS u 4) : Ctr l E y_RD_put 6 [.ref B, .int (nI u)] N M 1 6 (t_thr 12 N M) := by
  have hB := h.1.1
  have hT := h.2.1
  have hTa := hT.1
  refine ctr_of [some (.ref B), some (.int (nI u))] (by decide) w_323 rfl rfl (Nat.le_of_ble_eq_true rfl) (fun Γ => ?_)
  refine g_iload_n d_RD_put_0 rfl ?_
  refine g_callS s_RD_57 sv_Tx_areSigns (g_of_val (k_Tx_areSigns u hu)) (by omega) rfl (by omega) (by omega) rfl (Nat.le_of_ble_eq_true rfl) d_RD_put_1 ?_
  rintro _ _ _ ⟨rfl, rfl, rfl⟩
  first | refine g_ifB_ne (tgt := 17) d_RD_put_4 (by decide) (fun hb_4 => ?_) (fun hb_4 => ?_) | refine g_ifN_ne (tgt := 17) d_RD_put_4 (by decide) (by omega) (fun hb_4 => ?_) (fun hb_4 => ?_)
  · refine g_aload_n d_RD_put_17 rfl ?_
    refine g_get f_RD_12 (by assumption) rfl d_RD_put_18 ?_
    refine g_iload_n d_RD_put_21 rfl ?_
    refine g_callV s_RD_68 sv_Tx_hasRoomFor (by assumption) rfl (g_of_val (k_Tx_hasRoomFor hT u hu)) (by omega) rfl (by omega) (by omega) rfl (Nat.le_of_ble_eq_true rfl) d_RD_put_22 ?_
    rintro _ _ _ ⟨rfl, rfl, rfl⟩
    first | refine g_ifB_ne (tgt := 38) d_RD_put_25 (by decide) (fun hb_25 => ?_) (fun hb_25 => ?_) | refine g_ifN_ne (tgt := 38) d_RD_put_25 (by decide) (by omega) (fun hb_25 => ?_) (fun hb_25 => ?_)
    · have := of_decide_eq_true hb_25
      omega
    · exact g_throw (i := 1) xa_Uoe rfl rfl (by decide) w_403 w_404 w_16 rfl (by decide) (by omega) (by omega) (Nat.le_of_ble_eq_true rfl) d_RD_put_28 d_RD_put_31 d_RD_put_32 d_RD_put_34 d_RD_put_37 ⟨_, rfl, rfl, rfl, rfl⟩
  · rw [ho] at hb_4
    cases hb_4
/-- what a list says of a packet -/
def jdg (rs : Nat → Rl) (m p : Nat) : Nat := if fi (fun i => r_m (rs i) p) m < m then (rs (fi (fun i => r_m (rs i) p) m)).1 else 0
theorem jdg_lt {q m : Nat} {rs : Nat → Rl} (hR : o_list E M q m rs) (p : Nat) : jdg rs m p < 3 := by
  unfold jdg
  split
  · exact (hR.2.2.1 _ (by assumption)).1
  · omega
theorem k_RD_pass (h : OA E M B tn ts mm rr gn gs) (j a c e g : Nat) (hj : j < 2) (ha : a ≤ 255) (hc : c ≤ 255) (he : e ≤ 1023) (hg : g ≤ 3) : Ctr l E y_RD_pass 8 [.ref B, .int (nI j), .int (nI a), .int (nI c), .int (nI e), .int (nI g)] N M 0 0 (g_ret (fun w N' M' => N' = N ∧ (∀ x, (x < B ∨ B + 151 < x) → M' x = M x) ∧
    ((fi (isc gs (pkt a c e g)) gn < gn ∧ w = some (.int (nI 3)) ∧ OA E M' B tn ts mm rr gn (va_up (fun i => if i < fi (isc gs (pkt a c e g)) gn then gs i else gs (i + 1)) (gn - 1) (gs (fi (isc gs (pkt a c e g)) gn)))) ∨
    (¬ fi (isc gs (pkt a c e g)) gn < gn ∧ w = some (.int (nI (jdg (rr j) (mm j) (pkt a c e g)))) ∧ ((jdg (rr j) (mm j) (pkt a c e g) = 0 ∧ OA E M' B tn ts mm rr gn gs) ∨ (jdg (rr j) (mm j) (pkt a c e g) ≠ 0 ∧ OA E M' B tn ts mm rr (opN gn) (opC gn gs (pkt a c e g)))))))) := by
  have h0 := h
  obtain ⟨⟨h1, ⟨fa, h2, h3⟩, h4⟩, -, -, h5, -, -, hG⟩ := h
  have hl := h5 j hj
  have hla := hl.1
  have hGa := hG.1
  have hp := pkt_lt ha hc he hg
  have hgn := hG.2.1
  refine ctr_of [some (.ref B), some (.int (nI j)), some (.int (nI a)), some (.int (nI c)), some (.int (nI e)), some (.int (nI g)), none, none, none] (by decide) w_865 rfl rfl (Nat.le_of_ble_eq_true rfl) (fun Γ => ?_)
  have hpk := fun (N : Nat) => k_RD_packetOf (l := l) (E := E) (N := N) (M := M) a c e g ha hc he hg
  generalize pkt a c e g = p at hp hpk ⊢
  refine g_aload_n d_RD_pass_0 rfl ?_
  refine g_iload_n d_RD_pass_1 rfl ?_
  refine g_callV s_RD_84 sv_RD_requireList (by assumption) rfl (g_of_val (k_RD_requireList j hj)) (by omega) rfl (by omega) (by omega) rfl (Nat.le_of_ble_eq_true rfl) d_RD_pass_2 ?_
  rintro _ _ _ ⟨rfl, rfl, rfl⟩
  refine g_iload_n d_RD_pass_5 rfl ?_
  refine g_iload_n d_RD_pass_6 rfl ?_
  refine g_iload d_RD_pass_7 rfl ?_
  refine g_iload d_RD_pass_9 rfl ?_
  refine g_callS s_RD_127 sv_RD_packetOf (g_of_val (hpk _)) (by omega) rfl (by omega) (by omega) rfl (Nat.le_of_ble_eq_true rfl) d_RD_pass_11 ?_
  rintro _ _ _ ⟨rfl, rfl, rfl⟩
  refine g_istore d_RD_pass_14 (by decide) ?_
  refine g_aload_n d_RD_pass_16 rfl ?_
  refine g_get f_RD_53 (by assumption) rfl d_RD_pass_17 ?_
  refine g_iload d_RD_pass_20 rfl ?_
  refine g_callV s_RD_171 sv_Ga_connectionOf (by assumption) rfl (g_of_val (k_Ga_connectionOf hG p hp)) (by omega) rfl (by omega) (by omega) rfl (Nat.le_of_ble_eq_true rfl) d_RD_pass_22 ?_
  rintro _ _ _ ⟨rfl, rfl, rfl⟩
  refine g_istore d_RD_pass_25 (by decide) ?_
  refine g_iload d_RD_pass_27 rfl ?_
  refine g_iconst (v := -1) d_RD_pass_29 (by decide) ?_
  have hfi := fi_le (isc gs p) gn
  generalize fi (isc gs p) gn = k at hfi ⊢
  have hjd := jdg_lt hl p
  by_cases hk : k < gn
  · rw [show fI k gn = nI k from if_pos hk]
    refine g_icmp_eq (tgt := 44) d_RD_pass_30 (by decide) (fun hb => absurd (congrArg Int32.toInt hb) (by rw [nI_toInt (by omega)]; show ¬ ((k : Nat) : Int) = -1; omega)) (fun hb => ?_)
    refine g_aload_n d_RD_pass_33 rfl ?_
    refine g_get f_RD_53 (by assumption) rfl d_RD_pass_34 ?_
    refine g_iload d_RD_pass_37 rfl ?_
    refine g_callV s_RD_174 sv_Ga_renew (by assumption) rfl (k_Ga_renew hG k hk) (by omega) rfl (by omega) (by omega) rfl (Nat.le_of_ble_eq_true rfl) d_RD_pass_39 ?_
    rintro v' N' M1 ⟨rfl, rfl, hG1, hf1⟩
    refine g_iconst (v := nI 3) d_RD_pass_42 (by decide) ?_
    exact g_ireturn rfl rfl (by omega) (by omega) d_RD_pass_43 ⟨_, rfl, rfl, fun x hx => hf1 x (by omega) (by omega), Or.inl ⟨hk, rfl, h0.gate hG1 hf1⟩⟩
  · rw [show fI k gn = -1 from if_neg hk]
    refine g_icmp_eq (tgt := 44) d_RD_pass_30 (by decide) (fun hb => ?_) (fun hb => absurd rfl hb)
    refine g_aload_n d_RD_pass_44 rfl ?_
    refine g_get f_RD_27 (by assumption) rfl d_RD_pass_45 ?_
    refine g_iload_n d_RD_pass_48 rfl ?_
    refine g_aald j (by assumption) rfl rfl rfl hj (by decide) (h3 j hj) d_RD_pass_49 ?_
    refine g_iload d_RD_pass_50 rfl ?_
    refine g_callV s_RD_131 sv_RL_judge (by assumption) rfl (g_of_val (k_RL_judge hl p hp)) (by omega) rfl (by omega) (by omega) rfl (Nat.le_of_ble_eq_true rfl) d_RD_pass_52 ?_
    rintro _ _ _ ⟨rfl, rfl, rfl⟩
    refine g_eqi (z := nI (jdg (rr j) (mm j) p)) rfl ?_
    generalize jdg (rr j) (mm j) p = v at hjd ⊢
    refine g_istore d_RD_pass_55 (by decide) ?_
    refine g_iload d_RD_pass_57 rfl ?_
    refine g_ifN_eq (tgt := 71) d_RD_pass_59 (by decide) (by omega) (fun hb_59 => ?_) (fun hb_59 => ?_)
    · refine g_iload d_RD_pass_71 rfl ?_
      exact g_ireturn rfl rfl (by omega) (by omega) d_RD_pass_73 ⟨_, rfl, rfl, fun _ _ => rfl, Or.inr ⟨hk, rfl, Or.inl ⟨hb_59, h0⟩⟩⟩
    · refine g_aload_n d_RD_pass_62 rfl ?_
      refine g_get f_RD_53 (by assumption) rfl d_RD_pass_63 ?_
      refine g_iload d_RD_pass_66 rfl ?_
      refine g_callV s_RD_177 sv_Ga_open (by assumption) rfl (k_Ga_open hG p hp) (by omega) rfl (by omega) (by omega) rfl (Nat.le_of_ble_eq_true rfl) d_RD_pass_68 ?_
      rintro v' N' M1 ⟨rfl, rfl, hG1, hf1⟩
      refine g_iload d_RD_pass_71 rfl ?_
      exact g_ireturn rfl rfl (by omega) (by omega) d_RD_pass_73 ⟨_, rfl, rfl, fun x hx => hf1 x (by omega) (by omega), Or.inr ⟨hk, rfl, Or.inr ⟨hb_59, h0.gate hG1 hf1⟩⟩⟩
theorem x_RD_pass (h : OA E M B tn ts mm rr gn gs) (j : Nat) (hj : j < 2) (a c e g : Int32) (hp : noP a c e g) : Ctr l E y_RD_pass 8 [.ref B, .int (nI j), .int a, .int c, .int e, .int g] N M 1 6 (t_thr 11 N M) := by
  have hB := h.1.1
  refine ctr_of [some (.ref B), some (.int (nI j)), some (.int a), some (.int c), some (.int e), some (.int g), none, none, none] (by decide) w_865 rfl rfl (Nat.le_of_ble_eq_true rfl) (fun Γ => ?_)
  refine g_aload_n d_RD_pass_0 rfl ?_
  refine g_iload_n d_RD_pass_1 rfl ?_
  refine g_callV s_RD_84 sv_RD_requireList (by assumption) rfl (g_of_val (k_RD_requireList j hj)) (by omega) rfl (by omega) (by omega) rfl (Nat.le_of_ble_eq_true rfl) d_RD_pass_2 ?_
  rintro _ _ _ ⟨rfl, rfl, rfl⟩
  refine g_iload_n d_RD_pass_5 rfl ?_
  refine g_iload_n d_RD_pass_6 rfl ?_
  refine g_iload d_RD_pass_7 rfl ?_
  refine g_iload d_RD_pass_9 rfl ?_
  exact g_thrS s_RD_127 sv_RD_packetOf (x_RD_packetOf a c e g hp) (by omega) rfl (by omega) (by omega) rfl (Nat.le_of_ble_eq_true rfl) d_RD_pass_11 (fun b _ _ hb => ⟨b, rfl, hb⟩)
theorem xl_RD_pass (h : OA E M B tn ts mm rr gn gs) (x a c e g : Int32) (hx : noN x 2) : Ctr l E y_RD_pass 8 [.ref B, .int x, .int a, .int c, .int e, .int g] N M 1 6 (t_thr 13 N M) := by
  have hB := h.1.1
  refine ctr_of [some (.ref B), some (.int x), some (.int a), some (.int c), some (.int e), some (.int g), none, none, none] (by decide) w_865 rfl rfl (Nat.le_of_ble_eq_true rfl) (fun Γ => ?_)
  refine g_aload_n d_RD_pass_0 rfl ?_
  refine g_iload_n d_RD_pass_1 rfl ?_
  exact g_thrV s_RD_84 sv_RD_requireList (by assumption) rfl (x_RD_requireList x hx) (by omega) rfl (by omega) (by omega) rfl (Nat.le_of_ble_eq_true rfl) d_RD_pass_2 (fun b _ _ hb => ⟨b, rfl, hb⟩)
theorem m1_neg (k : Nat) (h : k ≤ 240) : ¬ (0 : Int32) ≤ -1 - nI k := by
  have key : ∀ k, k < 241 → ¬ (0 : Int32) ≤ -1 - nI k := by decide +kernel
  exact key k (by omega)
theorem iinc_m (x : Int32) : x + Int32.ofInt (-1) = x - nI 1 := by
  rw [Int32.sub_eq_add_neg]
  rfl
theorem k_RD_prune (h : OA E M B tn ts mm rr gn gs) (j : Nat) (hj : j < 2) : Ctr l E y_RD_prune 7 [.ref B, .int (nI j)] N M 0 0 (g_ret (fun w N' M' => w = some (.int (nI (prn (usdV (rr j) (mm j)) (mm j) (mm j) (rr j) 0).2.2)) ∧ N' = N ∧ OA E M' B tn ts (va_up mm j (prn (usdV (rr j) (mm j)) (mm j) (mm j) (rr j) 0).1) (va_up rr j (prn (usdV (rr j) (mm j)) (mm j) (mm j) (rr j) 0).2.1) gn gs ∧ ∀ x, (x < B ∨ B + 151 < x) → M' x = M x)) := by
  have h0 := h
  obtain ⟨⟨h1, ⟨fa, h2, h2b⟩, fb, h3, h4⟩, -, -, h5, h6, -⟩ := h
  have hl := h5 j hj
  have hm := hl.2.1
  have hS2 : 2 ^ mm j ≤ 256 := Nat.pow_le_pow_right (by omega) hm
  obtain ⟨⟨S, d1⟩, ⟨cn, cs, ct, d2⟩, ⟨wy, d3⟩, lk, d4, d5⟩ := h6 j hj
  have d1a := d1.1
  have hul := usd_lt (rr j) (mm j)
  refine ctr_of [some (.ref B), some (.int (nI j)), none, none] (by decide) w_858 rfl rfl (Nat.le_of_ble_eq_true rfl) (fun Γ => ?_)
  refine g_aload_n d_RD_prune_0 rfl ?_
  refine g_iload_n d_RD_prune_1 rfl ?_
  refine g_callV s_RD_84 sv_RD_requireList (by assumption) rfl (g_of_val (k_RD_requireList j hj)) (by omega) rfl (by omega) (by omega) rfl (Nat.le_of_ble_eq_true rfl) d_RD_prune_2 ?_
  rintro _ _ _ ⟨rfl, rfl, rfl⟩
  refine g_aload_n d_RD_prune_5 rfl ?_
  refine g_get f_RD_33 (by assumption) rfl d_RD_prune_6 ?_
  refine g_iload_n d_RD_prune_9 rfl ?_
  refine g_aald j (by assumption) rfl rfl rfl hj (by decide) (h4 j hj) d_RD_prune_10 ?_
  refine g_callV s_RD_139 sv_Di_compile (by assumption) rfl (k_Di_compile d1 hl (by omega) d2 d3) (by omega) rfl (by omega) (by omega) rfl (Nat.le_of_ble_eq_true rfl) d_RD_prune_11 ?_
  rintro v' N' M1 ⟨rfl, rfl, c1, ⟨cn', cs', ct', c2, c3⟩, ⟨wy', c4, c5⟩, hf1⟩
  have c1a := c1.1
  have h1' := (hf1 B (by omega)).trans h1
  have h2' := (hf1 (B + 30) (by omega)).trans h2
  have h3' := (hf1 (B + 31) (by omega)).trans h3
  have hl' := hl.kept (M' := M1) (fun x _ _ => hf1 x (by omega))
  have hl'a := hl'.1
  have hOA : OA E M1 B tn ts mm rr gn gs := h0.diag hj ⟨⟨_, c1⟩, ⟨cn', cs', ct', c2⟩, ⟨wy', c4⟩, lk, d4.kept (fun x _ _ => hf1 x (by omega)), d5⟩ (fun x hx => hf1 x (by omega))
  have husd : ∀ i, sm (fun s => if s ≠ 0 ∧ lb s = i then wy' 4 s else 0) (2 ^ mm j) = usdV (rr j) (mm j) i := by
    intro i
    unfold usdV
    refine sm_congr (fun s hs => ?_)
    rw [c5 4 s (by omega) (by omega)]
  refine g_iconst (v := nI 0) d_RD_prune_14 (by decide) ?_
  refine g_istore_n d_RD_prune_15 (by decide) ?_
  refine g_aload_n d_RD_prune_16 rfl ?_
  refine g_get f_RD_27 (by assumption) rfl d_RD_prune_17 ?_
  refine g_iload_n d_RD_prune_20 rfl ?_
  refine g_aald j (by assumption) rfl rfl rfl hj (by decide) (h2b j hj) d_RD_prune_21 ?_
  refine g_callV s_RD_113 sv_RL_size (by assumption) rfl (g_of_val (k_RL_size hl')) (by omega) rfl (by omega) (by omega) rfl (Nat.le_of_ble_eq_true rfl) d_RD_prune_22 ?_
  rintro _ _ _ ⟨rfl, rfl, rfl⟩
  refine g_iconst (v := nI 1) d_RD_prune_25 (by decide) ?_
  refine g_isub d_RD_prune_26 ?_
  obtain ⟨X, hX⟩ : ∃ X, X = prn (usdV (rr j) (mm j)) (mm j) (mm j) (rr j) 0 := ⟨_, rfl⟩
  rw [← hX]
  refine g_istore_n d_RD_prune_27 (by decide) ?_
  refine g_for (P := fun k => ∀ (M2 : gM) (m2 g2 : Nat) (r2 : Nat → Rl) (x3 : Int32), x3 = nI (mm j - k) - nI 1 → mm j - k ≤ m2 → o_list E M2 (B + 32 + 52 * j) m2 r2 → X = prn (usdV (rr j) (mm j)) (mm j - k) m2 r2 g2 → (∀ x, (x < B + 32 + 52 * j ∨ B + 32 + 52 * j + 25 < x) → M2 x = M1 x) → G _ _ _ _ _ _ _ _ _ _ _ _ 28 [some (.ref B), some (.int (nI j)), some (.int (nI g2)), some (.int x3)] [] _ M2 0 0) (e := mm j) ?_ ?_ 0 (by omega) M1 (mm j) 0 (rr j) _ rfl (by omega) hl' hX (fun _ _ => rfl)
  · intro M2 m2 g2 r2 x3 e3 hle hl2 hX2 hf2
    rw [Nat.sub_self] at hX2 e3
    have e4 : X = (m2, r2, g2) := hX2
    rw [e4]
    refine g_iload_n d_RD_prune_28 rfl ?_
    refine g_if_lt (tgt := 64) d_RD_prune_29 (by decide) (fun _ => ?_) (fun hb => absurd (by rw [e3]; decide) hb)
    refine g_iload_n d_RD_prune_64 rfl ?_
    exact g_ireturn rfl rfl (by omega) (by omega) d_RD_prune_65 ⟨_, rfl, rfl, rfl, hOA.list hj hl2 hf2, fun x hx => (hf2 x (by omega)).trans (hf1 x (by omega))⟩
  · intro k hk ih M2 m2 g2 r2 x3 e3 hle hl2 hX2 hf2
    obtain ⟨i, hi⟩ : ∃ i, mm j - k = i + 1 := ⟨mm j - k - 1, by omega⟩
    have hi2 : mm j - (k + 1) = i := by omega
    rw [hi] at e3 hX2 hle
    rw [hi2] at ih
    have e5 : x3 = nI i := e3.trans (pk_sub (by omega))
    rw [e5]
    have hu := hul i
    have c1' := c1.kept (M' := M2) (fun x hx => hf2 x (by omega))
    have c1'a := c1'.1
    have c4' := c4.kept (M' := M2) (fun x _ _ => hf2 x (by omega))
    have g1 := (hf2 B (by omega)).trans h1'
    have g2' := (hf2 (B + 30) (by omega)).trans h2'
    have g3 := (hf2 (B + 31) (by omega)).trans h3'
    have hl2a := hl2.1
    refine g_iload_n d_RD_prune_28 rfl ?_
    refine g_ifN_lt (tgt := 64) d_RD_prune_29 (by decide) (by omega) (fun hb_29 => ?_) (fun hb_29 => ?_)
    · exact hb_29.elim
    refine g_aload_n d_RD_prune_32 rfl ?_
    refine g_get f_RD_33 (by assumption) rfl d_RD_prune_33 ?_
    refine g_iload_n d_RD_prune_36 rfl ?_
    refine g_aald j (by assumption) rfl rfl rfl hj (by decide) (h4 j hj) d_RD_prune_37 ?_
    refine g_iload_n d_RD_prune_38 rfl ?_
    refine g_callV s_RD_168 sv_Di_packetsOf (by assumption) rfl (g_of_val (k_Di_packetsOf c1' hS2 (Nat.two_pow_pos _) c4' i (by omega))) (by omega) rfl (by omega) (by omega) rfl (Nat.le_of_ble_eq_true rfl) d_RD_prune_39 ?_
    rintro _ _ _ ⟨rfl, rfl, rfl⟩
    refine g_eqi (z := nI (usdV (rr j) (mm j) i)) (congrArg nI (husd i)) ?_
    refine g_ifN_ne (tgt := 58) d_RD_prune_42 (by decide) (by omega) (fun hb_42 => ?_) (fun hb_42 => ?_)
    · refine g_iinc (v := nI i - nI 1) d_RD_prune_58 rfl (iinc_m _) (by decide) ?_
      refine g_goto (tgt := 28) d_RD_prune_61 (by decide) ?_
      refine ih M2 m2 g2 r2 _ rfl (by omega) hl2 ?_ hf2
      rw [hX2]
      show (if usdV (rr j) (mm j) i = 0 then _ else _) = _
      rw [if_neg hb_42]
    · refine g_aload_n d_RD_prune_45 rfl ?_
      refine g_get f_RD_27 (by assumption) rfl d_RD_prune_46 ?_
      refine g_iload_n d_RD_prune_49 rfl ?_
      refine g_aald j (by assumption) rfl rfl rfl hj (by decide) (h2b j hj) d_RD_prune_50 ?_
      refine g_iload_n d_RD_prune_51 rfl ?_
      refine g_callV s_RD_107 sv_RL_takeOut (by assumption) rfl (k_RL_takeOut hl2 i (by omega)) (by omega) rfl (by omega) (by omega) rfl (Nat.le_of_ble_eq_true rfl) d_RD_prune_52 ?_
      rintro v' N' M3 ⟨rfl, rfl, hl3, hf3⟩
      refine g_iinc1 d_RD_prune_55 rfl (by decide) ?_
      refine g_iinc (v := nI i - nI 1) d_RD_prune_58 rfl (iinc_m _) (by decide) ?_
      refine g_goto (tgt := 28) d_RD_prune_61 (by decide) ?_
      refine ih M3 (m2 - 1) (g2 + 1) _ _ rfl (by omega) hl3 ?_ (fun x hx => (hf3 x (by omega) (by omega)).trans (hf2 x hx))
      rw [hX2]
      show (if usdV (rr j) (mm j) i = 0 then _ else _) = _
      rw [if_pos hb_42]
theorem x_RD_prune (h : OA E M B tn ts mm rr gn gs) (x : Int32) (hx : noN x 2) : Ctr l E y_RD_prune 7 [.ref B, .int x] N M 1 6 (t_thr 13 N M) := by
  have hB := h.1.1
  refine ctr_of [some (.ref B), some (.int x), none, none] (by decide) w_858 rfl rfl (Nat.le_of_ble_eq_true rfl) (fun Γ => ?_)
  refine g_aload_n d_RD_prune_0 rfl ?_
  refine g_iload_n d_RD_prune_1 rfl ?_
  exact g_thrV s_RD_84 sv_RD_requireList (by assumption) rfl (x_RD_requireList x hx) (by omega) rfl (by omega) (by omega) rfl (Nat.le_of_ble_eq_true rfl) d_RD_prune_2 (fun b _ _ hb => ⟨b, rfl, hb⟩)
theorem k_RD_read (h : OA E M B tn ts mm rr gn gs) (j : Nat) (hj : j < 2) : ∃ z0 : Nat → Rl, Ctr l E y_RD_read 10 [.ref B, .int (nI j)] N M 0 0 (g_ret (fun w N' M' => N' = N ∧ (∀ x, (x < B ∨ B + 151 < x) → M' x = M x) ∧
    (((sT tn ts z0).1 = false ∧ w = some (.int (-1 - nI (sT tn ts z0).2.1)) ∧ OA E M' B 0 ts mm rr gn gs) ∨
    ((sT tn ts z0).1 = true ∧ 8 - mm j < (sT tn ts z0).2.1 ∧ w = some (.int (-1000)) ∧ OA E M' B 0 ts mm rr gn gs) ∨
    ((sT tn ts z0).1 = true ∧ (sT tn ts z0).2.1 ≤ 8 - mm j ∧ w = some (.int (nI (sT tn ts z0).2.1)) ∧ ∃ r', OA E M' B 0 ts (va_up mm j (mm j + (sT tn ts z0).2.1)) (va_up rr j r') gn gs ∧ (∀ k, k < mm j → r' k = rr j k) ∧ ∀ k, k < (sT tn ts z0).2.1 → r_eq (r' (mm j + k)) ((sT tn ts z0).2.2 k))))) := by
  have h0 := h
  obtain ⟨⟨h1, ⟨fa, h2, h3⟩, h4⟩, hT, ⟨⟨told, hr1⟩, ⟨y1, y2, y3, hr2⟩, z0, hr3⟩, h5, -, -, -⟩ := h
  refine ⟨z0, ?_⟩
  have hl := h5 j hj
  have hla := hl.1
  have hm := hl.2.1
  have hTa := hT.1
  have hok := sTx_ok (n := tn) (ts := ts) 240 0 (bh tn ts 0 1) z0 (fun j hj => by omega)
  refine ctr_of [some (.ref B), some (.int (nI j)), none, none] (by decide) w_434 rfl rfl (Nat.le_of_ble_eq_true rfl) (fun Γ => ?_)
  refine g_aload_n d_RD_read_0 rfl ?_
  refine g_iload_n d_RD_read_1 rfl ?_
  refine g_callV s_RD_84 sv_RD_requireList (by assumption) rfl (g_of_val (k_RD_requireList j hj)) (by omega) rfl (by omega) (by omega) rfl (Nat.le_of_ble_eq_true rfl) d_RD_read_2 ?_
  rintro _ _ _ ⟨rfl, rfl, rfl⟩
  refine g_aload_n d_RD_read_5 rfl ?_
  refine g_get f_RD_21 (by assumption) rfl d_RD_read_6 ?_
  refine g_callV s_RD_87 sv_RR_readText (by assumption) rfl (k_RR_readText hr1 hr2 hT (by omega) hr3) (by omega) rfl (by omega) (by omega) rfl (Nat.le_of_ble_eq_true rfl) d_RD_read_9 ?_
  rintro v' N' M1 ⟨rfl, rfl, ⟨told', i1⟩, ⟨w1, w2, w3, i2⟩, i3, i4, hf1⟩
  have hT1 := hT.kept (M' := M1) (fun x _ _ => hf1 x (by omega))
  have hT1a := hT1.1
  have h1' := (hf1 B (by omega)).trans h1
  have hOA1 : OA E M1 B tn ts mm rr gn gs := h0.reader ⟨⟨told', i1⟩, ⟨w1, w2, w3, i2⟩, _, i3⟩ hf1
  change (sT tn ts z0).1 = true → (sT tn ts z0).2.1 ≤ 8 → ∀ j, j < (sT tn ts z0).2.1 → r_ok ((sT tn ts z0).2.2 j) at hok
  generalize sT tn ts z0 = X at i3 i4 hok ⊢
  obtain ⟨ok, C, R⟩ := X
  simp only at i3 i4 hok ⊢
  refine g_istore_n d_RD_read_12 (by decide) ?_
  refine g_aload_n d_RD_read_13 rfl ?_
  refine g_get f_RD_12 (by assumption) rfl d_RD_read_14 ?_
  refine g_callV s_RD_90 sv_Tx_clear (by assumption) rfl (k_Tx_clear hT1) (by omega) rfl (by omega) (by omega) rfl (Nat.le_of_ble_eq_true rfl) d_RD_read_17 ?_
  rintro v' N' M2 ⟨rfl, rfl, hT2, hf2⟩
  have hOA2 : OA E M2 B 0 ts mm rr gn gs := hOA1.text hT2 (fun x x1 _ => hf2 x x1)
  have hfr : ∀ x, (x < B ∨ B + 151 < x) → M2 x = M x := fun x hx => (hf2 x (by omega)).trans (hf1 x (by omega))
  have g1 := (hf2 B (by omega)).trans h1'
  have g2 := (hf2 (B + 30) (by omega)).trans ((hf1 (B + 30) (by omega)).trans h2)
  have hl2 := hl.kept (M' := M2) (fun x _ _ => (hf2 x (by omega)).trans (hf1 x (by omega)))
  have hl2a := hl2.1
  have i1' := (hf2 (B + 3) (by omega)).trans i1
  have i3' := i3.kept (M' := M2) (fun x _ _ => hf2 x (by omega))
  cases ok with
  | false =>
    rw [show rI false C = -1 - nI C from if_neg (by decide)]
    refine g_iload_n d_RD_read_20 rfl ?_
    refine g_if_ge (tgt := 26) d_RD_read_21 (by decide) (fun hb => absurd hb (m1_neg C i4)) (fun hb => ?_)
    refine g_iload_n d_RD_read_24 rfl ?_
    exact g_ireturn rfl rfl (by omega) (by omega) d_RD_read_25 ⟨_, rfl, rfl, hfr, Or.inl ⟨rfl, rfl, hOA2⟩⟩
  | true =>
    rw [show rI true C = nI C from if_pos rfl]
    refine g_iload_n d_RD_read_20 rfl ?_
    refine g_ifN_ge (tgt := 26) d_RD_read_21 (by decide) (by omega) (fun hb => ?_) (fun hb => hb.elim)
    refine g_iload_n d_RD_read_26 rfl ?_
    refine g_aload_n d_RD_read_27 rfl ?_
    refine g_get f_RD_27 (by assumption) rfl d_RD_read_28 ?_
    refine g_iload_n d_RD_read_31 rfl ?_
    refine g_aald j (by assumption) rfl rfl rfl hj (by decide) (h3 j hj) d_RD_read_32 ?_
    refine g_callV s_RD_93 sv_RL_room (by assumption) rfl (g_of_val (k_RL_room hl2)) (by omega) rfl (by omega) (by omega) rfl (Nat.le_of_ble_eq_true rfl) d_RD_read_33 ?_
    rintro _ _ _ ⟨rfl, rfl, rfl⟩
    refine g_icmpN_le (tgt := 43) d_RD_read_36 (by decide) (by omega) (by omega) (fun hb_36 => ?_) (fun hb_36 => ?_)
    · refine g_iconst (v := nI 0) d_RD_read_43 (by decide) ?_
      refine g_istore_n d_RD_read_44 (by decide) ?_
      refine g_for (P := fun i => ∀ (M3 : gM) (r3 : Nat → Rl), o_list E M3 (B + 32 + 52 * j) (mm j + i) r3 → (∀ k, k < mm j → r3 k = rr j k) → (∀ k, k < i → r_eq (r3 (mm j + k)) (R k)) → (∀ x, (x < B + 32 + 52 * j ∨ B + 32 + 52 * j + 25 < x) → M3 x = M2 x) → G _ _ _ _ _ _ _ _ _ _ _ _ 45 [some (.ref B), some (.int (nI j)), some (.int (nI C)), some (.int (nI i))] [] _ M3 0 0) (e := C) ?_ ?_ 0 (by omega) M2 (rr j) hl2 (fun _ _ => rfl) (fun k hk => by omega) (fun _ _ => rfl)
      · intro M3 r3 hl3 a3 b3 hf3
        refine g_iload_n d_RD_read_45 rfl ?_
        refine g_iload_n d_RD_read_46 rfl ?_
        refine g_icmpN_ge (tgt := 73) d_RD_read_47 (by decide) (by omega) (by omega) (fun hb_47 => ?_) (fun hb_47 => ?_)
        · refine g_iload_n d_RD_read_73 rfl ?_
          exact g_ireturn rfl rfl (by omega) (by omega) d_RD_read_74 ⟨_, rfl, rfl, fun x hx => (hf3 x (by omega)).trans (hfr x hx), Or.inr (Or.inr ⟨rfl, by omega, rfl, r3, hOA2.list hj hl3 hf3, a3, b3⟩)⟩
        · omega
      · intro i hi ih M3 r3 hl3 a3 b3 hf3
        have k1 := (hf3 B (by omega)).trans g1
        have k2 := (hf3 (B + 30) (by omega)).trans g2
        have k3 := (hf3 (B + 3) (by omega)).trans i1'
        have k4 := i3'.kept (M' := M3) (fun x _ _ => hf3 x (by omega))
        obtain ⟨z, hz1, hz2⟩ := k4.2 i (by omega)
        have hz1a := hz1.1
        have hl3a := hl3.1
        refine g_iload_n d_RD_read_45 rfl ?_
        refine g_iload_n d_RD_read_46 rfl ?_
        refine g_icmpN_ge (tgt := 73) d_RD_read_47 (by decide) (by omega) (by omega) (fun hb_47 => ?_) (fun hb_47 => ?_)
        · omega
        refine g_aload_n d_RD_read_50 rfl ?_
        refine g_get f_RD_27 (by assumption) rfl d_RD_read_51 ?_
        refine g_iload_n d_RD_read_54 rfl ?_
        refine g_aald j (by assumption) rfl rfl rfl hj (by decide) (h3 j hj) d_RD_read_55 ?_
        refine g_aload_n d_RD_read_56 rfl ?_
        refine g_get f_RD_21 (by assumption) rfl d_RD_read_57 ?_
        refine g_iload_n d_RD_read_60 rfl ?_
        refine g_callV s_RD_96 sv_RR_found (by assumption) rfl (g_of_val (k_RR_found k3 k4 (j := i) (by omega))) (by omega) rfl (by omega) (by omega) rfl (Nat.le_of_ble_eq_true rfl) d_RD_read_61 ?_
        rintro _ _ _ ⟨rfl, rfl, rfl⟩
        refine g_callV s_RD_100 sv_RL_append (by assumption) rfl (k_RL_append hl3 (by omega) hz1 (r_ok_eq hz2 (hok rfl (by omega) i hi)) (by omega)) (by omega) rfl (by omega) (by omega) rfl (Nat.le_of_ble_eq_true rfl) d_RD_read_64 ?_
        rintro v' N' M4 ⟨rfl, rfl, ⟨r4, hl4, a4, b4⟩, hf4⟩
        refine g_iinc1 d_RD_read_67 rfl (by decide) ?_
        refine g_goto (tgt := 45) d_RD_read_70 (by decide) ?_
        refine ih M4 r4 hl4 (fun k hk => ?_) (fun k hk => ?_) (fun x hx => (hf4 x hx).trans (hf3 x hx))
        · rw [a4 k (by omega)]; exact a3 k hk
        · by_cases e : k = i
          · subst e
            exact ⟨b4.1.trans hz2.1, fun f hf => ⟨(b4.2 f hf).1.trans (hz2.2 f hf).1, (b4.2 f hf).2.trans (hz2.2 f hf).2⟩⟩
          · rw [a4 (mm j + k) (by omega)]; exact b3 k (by omega)
    · refine g_sipush (v := -1000) d_RD_read_39 (by decide) ?_
      exact g_ireturn rfl rfl (by omega) (by omega) d_RD_read_42 ⟨_, rfl, rfl, hfr, Or.inr (Or.inl ⟨rfl, by omega, rfl, hOA2⟩)⟩
theorem x_RD_read (h : OA E M B tn ts mm rr gn gs) (x : Int32) (hx : noN x 2) : Ctr l E y_RD_read 10 [.ref B, .int x] N M 1 6 (t_thr 13 N M) := by
  have hB := h.1.1
  refine ctr_of [some (.ref B), some (.int x), none, none] (by decide) w_434 rfl rfl (Nat.le_of_ble_eq_true rfl) (fun Γ => ?_)
  refine g_aload_n d_RD_read_0 rfl ?_
  refine g_iload_n d_RD_read_1 rfl ?_
  exact g_thrV s_RD_84 sv_RD_requireList (by assumption) rfl (x_RD_requireList x hx) (by omega) rfl (by omega) (by omega) rfl (Nat.le_of_ble_eq_true rfl) d_RD_read_2 (fun b _ _ hb => ⟨b, rfl, hb⟩)
end CALLS3

