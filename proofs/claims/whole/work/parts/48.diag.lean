/-! diagrams -/
def o_dB (E : gE) (M : gM) (D q S : Nat) : Prop := M D = some (.inr (7, [.ref q, .ref (D + 1), .ref (D + 14), .ref (D + 20), .int (nI S)])) ∧ (∃ fa, M (D + 1) = some (g_qa E 6 4 fa) ∧ ∀ j, j < 4 → fa j = some (D + 2 + 3 * j)) ∧ (∃ fa, M (D + 14) = some (g_qa E 7 5 fa) ∧ ∀ j, j < 5 → fa j = some (D + 15 + j)) ∧ ∃ fa, M (D + 20) = some (g_qa E 7 5 fa) ∧ ∀ j, j < 5 → fa j = some (D + 21 + j)
def o_dC (E : gE) (M : gM) (D : Nat) (cn : Nat → Nat) (cs ct : Nat → Nat → Nat) : Prop := ∀ f, f < 4 → o_cut E M (D + 2 + 3 * f) f 17 (cn f) (cs f) (ct f)
/-- five rows of 256 numbers -/
def o_dW (E : gE) (M : gM) (b : Nat) (wy : Nat → Nat → Nat) : Prop := ∀ j, j < 5 → M (b + j) = some (g_ia E 256 (fun s => nI (wy j s)))
theorem o_dB.kept {E : gE} {M M' : gM} {D q S : Nat} (h : o_dB E M D q S) (hk : ∀ x, x = D ∨ x = D + 1 ∨ x = D + 14 ∨ x = D + 20 → M' x = M x) : o_dB E M' D q S := by
  obtain ⟨h1, ⟨fa, h2, h3⟩, ⟨fb, h4, h5⟩, fc, h6, h7⟩ := h
  exact ⟨(hk _ (by omega)).trans h1, ⟨fa, (hk _ (by omega)).trans h2, h3⟩, ⟨fb, (hk _ (by omega)).trans h4, h5⟩, fc, (hk _ (by omega)).trans h6, h7⟩
theorem o_dC.kept {E : gE} {M M' : gM} {D : Nat} {cn : Nat → Nat} {cs ct : Nat → Nat → Nat} (h : o_dC E M D cn cs ct) (hk : ∀ x, D + 2 ≤ x → x ≤ D + 13 → M' x = M x) : o_dC E M' D cn cs ct := fun f hf => (h f hf).kept (fun x _ _ => hk x (by omega) (by omega))
theorem o_dW.kept {E : gE} {M M' : gM} {b : Nat} {wy : Nat → Nat → Nat} (h : o_dW E M b wy) (hk : ∀ x, b ≤ x → x < b + 5 → M' x = M x) : o_dW E M' b wy := fun j hj => (hk _ (by omega) (by omega)).trans (h j hj)
/-- more ways to a table -/
def cwb (ss wd : Nat → Nat) (s a : Nat) : Nat → (Nat → Nat) → Nat → Nat
  | 0, w => w
  | r + 1, w => va_up (cwb ss wd s a r w) (s &&& ss r) (cwb ss wd s a r w (s &&& ss r) + a * wd r)
def jds (rs : Nat → Rl) (s : Nat) : Nat := if s = 0 then 0 else (rs (lb s)).1
section DIAG
variable {l : Launch} {E : gE} {N : Nat} {M : gM} {D q S m : Nat} {cn : Nat → Nat} {cs ct wy lk : Nat → Nat → Nat} {rs : Nat → Rl}
theorem k_Di_isTable (h : o_dB E M D q S) (hW : o_dW E M (D + 15) wy) (f s : Nat) (hf : f < 5) (hs : s < 256) (hb : wy f s < 2 ^ 31) : Ctr l E y_Di_isTable 0 [.ref D, .int (nI f), .int (nI s)] N M 0 0 (g_val (some (.int (bI (decide (0 < wy f s))))) N M) := by
  obtain ⟨h1, h2, ⟨fb, h4, h5⟩, h6⟩ := h
  have hw := hW f hf
  refine ctr_of [some (.ref D), some (.int (nI f)), some (.int (nI s))] (by decide) w_756 rfl rfl (Nat.le_of_ble_eq_true rfl) (fun Γ => ?_)
  refine g_aload_n d_Di_isTable_0 rfl ?_
  refine g_get f_Di_26 (by assumption) rfl d_Di_isTable_1 ?_
  refine g_iload_n d_Di_isTable_4 rfl ?_
  refine g_aald f (by assumption) rfl rfl rfl hf (by decide) (h5 f hf) d_Di_isTable_5 ?_
  refine g_iload_n d_Di_isTable_6 rfl ?_
  refine g_iald _ (by assumption) rfl (by omega) (by decide) d_Di_isTable_7 ?_
  refine g_ifN_le (tgt := 15) d_Di_isTable_8 (by decide) (by omega) (fun hb_8 => ?_) (fun hb_8 => ?_)
  · refine g_iconst (v := nI 0) d_Di_isTable_15 (by decide) ?_
    refine g_Fa (b := decide (0 < wy f s)) (decide_eq_false (by omega)) ?_
    exact g_ireturn rfl (by first | rfl | exact bI_nar _) (by omega) (by omega) d_Di_isTable_16 ⟨rfl, rfl, rfl⟩
  · refine g_iconst (v := nI 1) d_Di_isTable_11 (by decide) ?_
    refine g_goto (tgt := 16) d_Di_isTable_12 (by decide) ?_
    refine g_Tr (b := decide (0 < wy f s)) (decide_eq_true (by omega)) ?_
    exact g_ireturn rfl (by first | rfl | exact bI_nar _) (by omega) (by omega) d_Di_isTable_16 ⟨rfl, rfl, rfl⟩
theorem k_Di_restOf (h : o_dB E M D q S) (hC : o_dC E M D cn cs ct) (hL : o_dW E M (D + 21) lk) (f s r : Nat) (hf : f < 4) (hs : s < 256) (hr : r < cn f) : Ctr l E y_Di_restOf 1 [.ref D, .int (nI f), .int (nI s), .int (nI r)] N M 0 0 (g_val (some (.int (nI (lk (f + 1) (s &&& ct f r))))) N M) := by
  obtain ⟨h1, ⟨fa, h2, h3⟩, h4, fc, h6, h7⟩ := h
  have hw := hL (f + 1) (by omega)
  have hc := hC f hf
  have hca := hc.1
  have hle : s &&& ct f r ≤ s := Nat.and_le_left
  refine ctr_of [some (.ref D), some (.int (nI f)), some (.int (nI s)), some (.int (nI r))] (by decide) w_795 rfl rfl (Nat.le_of_ble_eq_true rfl) (fun Γ => ?_)
  refine g_aload_n d_Di_restOf_0 rfl ?_
  refine g_get f_Di_29 (by assumption) rfl d_Di_restOf_1 ?_
  refine g_iload_n d_Di_restOf_4 rfl ?_
  refine g_iconst (v := nI 1) d_Di_restOf_5 (by decide) ?_
  refine g_iadd d_Di_restOf_6 ?_
  refine g_eqi (nI_add _ _) ?_
  refine g_aald (f + 1) (by assumption) rfl rfl rfl (by omega) (by decide) (h7 (f + 1) (by omega)) d_Di_restOf_7 ?_
  refine g_iload_n d_Di_restOf_8 rfl ?_
  refine g_aload_n d_Di_restOf_9 rfl ?_
  refine g_get f_Di_17 (by assumption) rfl d_Di_restOf_10 ?_
  refine g_iload_n d_Di_restOf_13 rfl ?_
  refine g_aald f (by assumption) rfl rfl rfl hf (by decide) (h3 f hf) d_Di_restOf_14 ?_
  refine g_iload_n d_Di_restOf_15 rfl ?_
  refine g_callV s_Di_87 sv_Cu_set (by assumption) rfl (g_of_val (k_Cu_set hc r hr)) (by omega) rfl (by omega) (by omega) rfl (Nat.le_of_ble_eq_true rfl) d_Di_restOf_16 ?_
  rintro _ _ _ ⟨rfl, rfl, rfl⟩
  refine g_iand d_Di_restOf_19 ?_
  refine g_eqi (nI_and _ _) ?_
  refine g_iald _ (by assumption) rfl (by omega) (by decide) d_Di_restOf_20 ?_
  exact g_ireturn rfl (by first | rfl | exact bI_nar _) (by omega) (by omega) d_Di_restOf_21 ⟨rfl, rfl, rfl⟩
theorem k_Di_countWaysBehind (h : o_dB E M D q S) (hC : o_dC E M D cn cs ct) (hW : o_dW E M (D + 15) wy) (f s : Nat) (hf : f < 4) (hs : s < 256) : Ctr l E y_Di_countWaysBehind 2 [.ref D, .int (nI f), .int (nI s)] N M 0 0 (g_ret (fun v N' M' => v = none ∧ N' = N ∧ o_dW E M' (D + 15) (fun j => if j = f + 1 then cwb (ct f) (fun r => enr (cs f) (cn f) (mst f + 1) r - cs f r) s (wy f s) (cn f) (wy (f + 1)) else wy j) ∧ ∀ x, x ≠ D + 15 + (f + 1) → M' x = M x)) := by
  have h0 := h
  obtain ⟨h1, ⟨fa, h2, h3⟩, ⟨fb, h4, h5⟩, h6⟩ := h
  have hc := hC f hf
  have hn := hc.2.2.1
  refine ctr_of [some (.ref D), some (.int (nI f)), some (.int (nI s)), none, none] (by decide) w_760 rfl rfl (Nat.le_of_ble_eq_true rfl) (fun Γ => ?_)
  refine g_aload_n d_Di_countWaysBehind_0 rfl ?_
  refine g_get f_Di_17 (by assumption) rfl d_Di_countWaysBehind_1 ?_
  refine g_iload_n d_Di_countWaysBehind_4 rfl ?_
  refine g_aald f (by assumption) rfl rfl rfl hf (by decide) (h3 f hf) d_Di_countWaysBehind_5 ?_
  refine g_astore_n d_Di_countWaysBehind_6 (by decide) ?_
  refine g_iconst (v := nI 0) d_Di_countWaysBehind_7 (by decide) ?_
  refine g_istore d_Di_countWaysBehind_8 (by decide) ?_
  refine g_for (P := fun i => ∀ M2 : gM, M2 (D + 15 + (f + 1)) = some (g_ia E 256 (fun x => nI (cwb (ct f) (fun r => enr (cs f) (cn f) (mst f + 1) r - cs f r) s (wy f s) i (wy (f + 1)) x))) → (∀ x, x ≠ D + 15 + (f + 1) → M2 x = M x) → G _ _ _ _ _ _ _ _ _ _ _ _ 10 [some (.ref D), some (.int (nI f)), some (.int (nI s)), some (.ref (D + 2 + 3 * f)), some (.int (nI i))] [] N M2 0 0) (e := cn f) ?_ ?_ 0 (by omega) M (hW (f + 1) (by omega)) (fun _ _ => rfl)
  · intro M2 g1 g2
    have hc2 := hc.kept (M' := M2) (fun x _ _ => g2 x (by omega))
    have hc2a := hc2.1
    refine g_iload d_Di_countWaysBehind_10 rfl ?_
    refine g_aload_n d_Di_countWaysBehind_12 rfl ?_
    refine g_callV s_Di_86 sv_Cu_size (by assumption) rfl (g_of_val (k_Cu_size hc2)) (by omega) rfl (by omega) (by omega) rfl (Nat.le_of_ble_eq_true rfl) d_Di_countWaysBehind_13 ?_
    rintro _ _ _ ⟨rfl, rfl, rfl⟩
    refine g_icmpN_ge (tgt := 60) d_Di_countWaysBehind_16 (by decide) (by omega) (by omega) (fun hb_16 => ?_) (fun hb_16 => ?_)
    · refine g_return rfl (by omega) (by omega) d_Di_countWaysBehind_60 ⟨_, rfl, rfl, rfl, fun j hj => ?_, g2⟩
      by_cases e : j = f + 1
      · subst e
        simp only [if_pos]
        exact g1
      · simp only [if_neg e]
        exact (g2 _ (by omega)).trans (hW j hj)
    · omega
  · intro i hi ih M2 g1 g2
    have hc2 := hc.kept (M' := M2) (fun x _ _ => g2 x (by omega))
    have hc2a := hc2.1
    have h1' := (g2 D (by omega)).trans h1
    have h4' := (g2 (D + 14) (by omega)).trans h4
    have hwf := (g2 (D + 15 + f) (by omega)).trans (hW f (by omega))
    have hle : s &&& ct f i ≤ s := Nat.and_le_left
    refine g_iload d_Di_countWaysBehind_10 rfl ?_
    refine g_aload_n d_Di_countWaysBehind_12 rfl ?_
    refine g_callV s_Di_86 sv_Cu_size (by assumption) rfl (g_of_val (k_Cu_size hc2)) (by omega) rfl (by omega) (by omega) rfl (Nat.le_of_ble_eq_true rfl) d_Di_countWaysBehind_13 ?_
    rintro _ _ _ ⟨rfl, rfl, rfl⟩
    refine g_icmpN_ge (tgt := 60) d_Di_countWaysBehind_16 (by decide) (by omega) (by omega) (fun hb_16 => ?_) (fun hb_16 => ?_)
    · omega
    refine g_aload_n d_Di_countWaysBehind_19 rfl ?_
    refine g_get f_Di_26 (by assumption) rfl d_Di_countWaysBehind_20 ?_
    refine g_iload_n d_Di_countWaysBehind_23 rfl ?_
    refine g_iconst (v := nI 1) d_Di_countWaysBehind_24 (by decide) ?_
    refine g_iadd d_Di_countWaysBehind_25 ?_
    refine g_eqi (nI_add _ _) ?_
    refine g_aald (f + 1) (by assumption) rfl rfl rfl (by omega) (by decide) (h5 (f + 1) (by omega)) d_Di_countWaysBehind_26 ?_
    refine g_iload_n d_Di_countWaysBehind_27 rfl ?_
    refine g_aload_n d_Di_countWaysBehind_28 rfl ?_
    refine g_iload d_Di_countWaysBehind_29 rfl ?_
    refine g_callV s_Di_87 sv_Cu_set (by assumption) rfl (g_of_val (k_Cu_set hc2 i hi)) (by omega) rfl (by omega) (by omega) rfl (Nat.le_of_ble_eq_true rfl) d_Di_countWaysBehind_31 ?_
    rintro _ _ _ ⟨rfl, rfl, rfl⟩
    refine g_iand d_Di_countWaysBehind_34 ?_
    refine g_eqi (nI_and _ _) ?_
    refine g_dup2 d_Di_countWaysBehind_35 rfl rfl ?_
    refine g_iald _ (by assumption) rfl (by omega) (by decide) d_Di_countWaysBehind_36 ?_
    refine g_aload_n d_Di_countWaysBehind_37 rfl ?_
    refine g_get f_Di_26 (by assumption) rfl d_Di_countWaysBehind_38 ?_
    refine g_iload_n d_Di_countWaysBehind_41 rfl ?_
    refine g_aald f (by assumption) rfl rfl rfl (by omega) (by decide) (h5 f (by omega)) d_Di_countWaysBehind_42 ?_
    refine g_iload_n d_Di_countWaysBehind_43 rfl ?_
    refine g_iald _ (by assumption) rfl (by omega) (by decide) d_Di_countWaysBehind_44 ?_
    refine g_aload_n d_Di_countWaysBehind_45 rfl ?_
    refine g_iload d_Di_countWaysBehind_46 rfl ?_
    refine g_callV s_Di_90 sv_Cu_width (by assumption) rfl (g_of_val (k_Cu_width hc2 i hi)) (by omega) rfl (by omega) (by omega) rfl (Nat.le_of_ble_eq_true rfl) d_Di_countWaysBehind_48 ?_
    rintro _ _ _ ⟨rfl, rfl, rfl⟩
    refine g_imul d_Di_countWaysBehind_51 ?_
    refine g_eqi (pk_mul _ _) ?_
    refine g_iadd d_Di_countWaysBehind_52 ?_
    refine g_eqi (nI_add _ _) ?_
    refine g_iast _ (by assumption) rfl (by omega) (by decide) d_Di_countWaysBehind_53 ?_
    refine g_nm (fun M3 e3 f3 => ?_)
    refine g_iinc1 d_Di_countWaysBehind_54 rfl (by decide) ?_
    refine g_goto (tgt := 10) d_Di_countWaysBehind_57 (by decide) ?_
    refine ih M3 ?_ (fun x hx => (f3 x hx).trans (g2 x hx))
    rw [e3, upd_nI]
    rfl
end DIAG

