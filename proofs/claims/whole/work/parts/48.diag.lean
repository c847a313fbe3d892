/-! diagrams -/
def o_dB (E : gE) (M : gM) (D q S : Nat) : Prop := M D = some (.inr (7, [.ref q, .ref (D + 1), .ref (D + 14), .ref (D + 20), .int (nI S)])) ∧ (∃ fa, M (D + 1) = some (g_qa E 6 4 fa) ∧ ∀ j, j < 4 → fa j = some (D + 2 + 3 * j)) ∧ (∃ fa, M (D + 14) = some (g_qa E 7 5 fa) ∧ ∀ j, j < 5 → fa j = some (D + 15 + j)) ∧ ∃ fa, M (D + 20) = some (g_qa E 7 5 fa) ∧ ∀ j, j < 5 → fa j = some (D + 21 + j)
def o_dC (E : gE) (M : gM) (D : Nat) (cn : Nat → Nat) (cs ct : Nat → Nat → Nat) : Prop := ∀ f, f < 4 → o_cut E M (D + 2 + 3 * f) f 17 (cn f) (cs f) (ct f)
/-- five rows of 256 numbers -/
def o_dW (E : gE) (M : gM) (b : Nat) (wy : Nat → Nat → Nat) : Prop := ∀ j, j < 5 → M (b + j) = some (g_ia E 256 (fun s => nI (wy j s)))
theorem o_dB.kept {E : gE} {M M' : gM} {D q S : Nat} (h : o_dB E M D q S) (hk : ∀ x, x = D ∨ x = D + 1 ∨ x = D + 14 ∨ x = D + 20 → M' x = M x) : o_dB E M' D q S := by
  obtain ⟨h1, ⟨fa, h2, h3⟩, ⟨fb, h4, h5⟩, fc, h6, h7⟩ := h
  exact ⟨(hk _ (by omega)).trans h1, ⟨fa, (hk _ (by omega)).trans h2, h3⟩, ⟨fb, (hk _ (by omega)).trans h4, h5⟩, fc, (hk _ (by omega)).trans h6, h7⟩
theorem o_dC.kept {E : gE} {M M' : gM} {D : Nat} {cn : Nat → Nat} {cs ct : Nat → Nat → Nat} (h : o_dC E M D cn cs ct) (hk : ∀ x, D + 2 ≤ x → x ≤ D + 13 → M' x = M x) : o_dC E M' D cn cs ct := fun f hf => (h f hf).kept (fun x _ _ => hk x (by omega) (by omega))
theorem o_dW.kept {E : gE} {M M' : gM} {b : Nat} {wy : Nat → Nat → Nat} (h : o_dW E M b wy) (hk : ∀ x, b ≤ x → x < b + 5 → M' x = M x) : o_dW E M' b wy := fun j hj => (hk _ (by omega) (by omega)).trans (h j hj)
/-- more ways to a table -/
def cwb (ss wd : Nat → Nat) (s a : Nat) : Nat → (Nat → Nat) → Nat → Nat
  | 0, w => w
  | r + 1, w => va_up (cwb ss wd s a r w) (s &&& ss r) (cwb ss wd s a r w (s &&& ss r) + a * wd r)
def jds (rs : Nat → Rl) (s : Nat) : Nat := if s = 0 then 0 else (rs (lb s)).1
def alk (lk1 ct : Nat → Nat) (n a b : Nat) : Bool := decide (∀ r, r < n → lk1 (a &&& ct r) = lk1 (b &&& ct r))
def flk (wyf lkf lk1 ct : Nat → Nat) (n s : Nat) : Nat := fi (fun o => decide (0 < wyf o) && (decide (lkf o = o) && alk lk1 ct n o s)) s
def rwo (g : Nat → Nat) (n : Nat) : Nat := 1 + sm (fun r => if g (r + 1) = g r then 0 else 1) (n - 1)
def ndo (wyf lkf lk1 ct : Nat → Nat) (n s : Nat) : Bool := decide (0 < wyf s) && (decide (lkf s = s) && decide (1 < rwo (fun r => lk1 (s &&& ct r)) n))
def lkr (wyf lk1 ct : Nat → Nat) (n : Nat) : Nat → (Nat → Nat) → Nat → Nat
  | 0, w => w
  | s + 1, w => if 0 < wyf s then va_up (lkr wyf lk1 ct n s w) s (flk wyf (lkr wyf lk1 ct n s w) lk1 ct n s) else lkr wyf lk1 ct n s w
section DIAG
variable {l : Launch} {E : gE} {N : Nat} {M : gM} {D q S m : Nat} {cn : Nat → Nat} {cs ct wy lk : Nat → Nat → Nat} {rs : Nat → Rl}
theorem k_Di_isTable (h : o_dB E M D q S) (hW : o_dW E M (D + 15) wy) (f s : Nat) (hf : f < 5) (hs : s < 256) (hb : wy f s < 2 ^ 31) : Ctr l E y_Di_isTable 0 [.ref D, .int (nI f), .int (nI s)] N M 0 0 (g_val (some (.int (bI (decide (0 < wy f s))))) N M) := by
  obtain ⟨h1, h2, ⟨fb, h4, h5⟩, h6⟩ := h
  have hw := hW f hf
  refine ctr_of [some (.ref D), some (.int (nI f)), some (.int (nI s))] (by decide) w_756 rfl rfl (Nat.le_of_ble_eq_true rfl) (fun Γ => ?_)
  refine g_aload_n d_Di_isTable_0 rfl ?_
  refine g_get f_Di_26 (by assumption) rfl d_Di_isTable_1 ?_
  refine g_iload_n d_Di_isTable_4 rfl ?_
  refine g_aald f (by assumption) rfl rfl rfl hf (by decide) (h5 f hf) d_Di_isTable_5 ?_
  refine g_iload_n d_Di_isTable_6 rfl ?_
  refine g_iald _ (by assumption) rfl (by omega) (by decide) d_Di_isTable_7 ?_
  refine g_ifN_le (tgt := 15) d_Di_isTable_8 (by decide) (by omega) (fun hb_8 => ?_) (fun hb_8 => ?_)
  · refine g_iconst (v := nI 0) d_Di_isTable_15 (by decide) ?_
    refine g_Fa (b := decide (0 < wy f s)) (decide_eq_false (by omega)) ?_
    exact g_ireturn rfl (by first | rfl | exact bI_nar _) (by omega) (by omega) d_Di_isTable_16 ⟨rfl, rfl, rfl⟩
  · refine g_iconst (v := nI 1) d_Di_isTable_11 (by decide) ?_
    refine g_goto (tgt := 16) d_Di_isTable_12 (by decide) ?_
    refine g_Tr (b := decide (0 < wy f s)) (decide_eq_true (by omega)) ?_
    exact g_ireturn rfl (by first | rfl | exact bI_nar _) (by omega) (by omega) d_Di_isTable_16 ⟨rfl, rfl, rfl⟩
theorem k_Di_restOf (h : o_dB E M D q S) (hC : o_dC E M D cn cs ct) (hL : o_dW E M (D + 21) lk) (f s r : Nat) (hf : f < 4) (hs : s < 256) (hr : r < cn f) : Ctr l E y_Di_restOf 1 [.ref D, .int (nI f), .int (nI s), .int (nI r)] N M 0 0 (g_val (some (.int (nI (lk (f + 1) (s &&& ct f r))))) N M) := by
  obtain ⟨h1, ⟨fa, h2, h3⟩, h4, fc, h6, h7⟩ := h
  have hw := hL (f + 1) (by omega)
  have hc := hC f hf
  have hca := hc.1
  have hle : s &&& ct f r ≤ s := Nat.and_le_left
  refine ctr_of [some (.ref D), some (.int (nI f)), some (.int (nI s)), some (.int (nI r))] (by decide) w_795 rfl rfl (Nat.le_of_ble_eq_true rfl) (fun Γ => ?_)
  refine g_aload_n d_Di_restOf_0 rfl ?_
  refine g_get f_Di_29 (by assumption) rfl d_Di_restOf_1 ?_
  refine g_iload_n d_Di_restOf_4 rfl ?_
  refine g_iconst (v := nI 1) d_Di_restOf_5 (by decide) ?_
  refine g_iadd d_Di_restOf_6 ?_
  refine g_eqi (nI_add _ _) ?_
  refine g_aald (f + 1) (by assumption) rfl rfl rfl (by omega) (by decide) (h7 (f + 1) (by omega)) d_Di_restOf_7 ?_
  refine g_iload_n d_Di_restOf_8 rfl ?_
  refine g_aload_n d_Di_restOf_9 rfl ?_
  refine g_get f_Di_17 (by assumption) rfl d_Di_restOf_10 ?_
  refine g_iload_n d_Di_restOf_13 rfl ?_
  refine g_aald f (by assumption) rfl rfl rfl hf (by decide) (h3 f hf) d_Di_restOf_14 ?_
  refine g_iload_n d_Di_restOf_15 rfl ?_
  refine g_callV s_Di_87 sv_Cu_set (by assumption) rfl (g_of_val (k_Cu_set hc r hr)) (by omega) rfl (by omega) (by omega) rfl (Nat.le_of_ble_eq_true rfl) d_Di_restOf_16 ?_
  rintro _ _ _ ⟨rfl, rfl, rfl⟩
  refine g_iand d_Di_restOf_19 ?_
  refine g_eqi (nI_and _ _) ?_
  refine g_iald _ (by assumption) rfl (by omega) (by decide) d_Di_restOf_20 ?_
  exact g_ireturn rfl (by first | rfl | exact bI_nar _) (by omega) (by omega) d_Di_restOf_21 ⟨rfl, rfl, rfl⟩
theorem k_Di_countWaysBehind (h : o_dB E M D q S) (hC : o_dC E M D cn cs ct) (hW : o_dW E M (D + 15) wy) (f s : Nat) (hf : f < 4) (hs : s < 256) : Ctr l E y_Di_countWaysBehind 2 [.ref D, .int (nI f), .int (nI s)] N M 0 0 (g_ret (fun v N' M' => v = none ∧ N' = N ∧ o_dW E M' (D + 15) (fun j => if j = f + 1 then cwb (ct f) (fun r => enr (cs f) (cn f) (mst f + 1) r - cs f r) s (wy f s) (cn f) (wy (f + 1)) else wy j) ∧ ∀ x, x ≠ D + 15 + (f + 1) → M' x = M x)) := by
  have h0 := h
  obtain ⟨h1, ⟨fa, h2, h3⟩, ⟨fb, h4, h5⟩, h6⟩ := h
  have hc := hC f hf
  have hn := hc.2.2.1
  refine ctr_of [some (.ref D), some (.int (nI f)), some (.int (nI s)), none, none] (by decide) w_760 rfl rfl (Nat.le_of_ble_eq_true rfl) (fun Γ => ?_)
  refine g_aload_n d_Di_countWaysBehind_0 rfl ?_
  refine g_get f_Di_17 (by assumption) rfl d_Di_countWaysBehind_1 ?_
  refine g_iload_n d_Di_countWaysBehind_4 rfl ?_
  refine g_aald f (by assumption) rfl rfl rfl hf (by decide) (h3 f hf) d_Di_countWaysBehind_5 ?_
  refine g_astore_n d_Di_countWaysBehind_6 (by decide) ?_
  refine g_iconst (v := nI 0) d_Di_countWaysBehind_7 (by decide) ?_
  refine g_istore d_Di_countWaysBehind_8 (by decide) ?_
  refine g_for (P := fun i => ∀ M2 : gM, M2 (D + 15 + (f + 1)) = some (g_ia E 256 (fun x => nI (cwb (ct f) (fun r => enr (cs f) (cn f) (mst f + 1) r - cs f r) s (wy f s) i (wy (f + 1)) x))) → (∀ x, x ≠ D + 15 + (f + 1) → M2 x = M x) → G _ _ _ _ _ _ _ _ _ _ _ _ 10 [some (.ref D), some (.int (nI f)), some (.int (nI s)), some (.ref (D + 2 + 3 * f)), some (.int (nI i))] [] N M2 0 0) (e := cn f) ?_ ?_ 0 (by omega) M (hW (f + 1) (by omega)) (fun _ _ => rfl)
  · intro M2 g1 g2
    have hc2 := hc.kept (M' := M2) (fun x _ _ => g2 x (by omega))
    have hc2a := hc2.1
    refine g_iload d_Di_countWaysBehind_10 rfl ?_
    refine g_aload_n d_Di_countWaysBehind_12 rfl ?_
    refine g_callV s_Di_86 sv_Cu_size (by assumption) rfl (g_of_val (k_Cu_size hc2)) (by omega) rfl (by omega) (by omega) rfl (Nat.le_of_ble_eq_true rfl) d_Di_countWaysBehind_13 ?_
    rintro _ _ _ ⟨rfl, rfl, rfl⟩
    refine g_icmpN_ge (tgt := 60) d_Di_countWaysBehind_16 (by decide) (by omega) (by omega) (fun hb_16 => ?_) (fun hb_16 => ?_)
    · refine g_return rfl (by omega) (by omega) d_Di_countWaysBehind_60 ⟨_, rfl, rfl, rfl, fun j hj => ?_, g2⟩
      by_cases e : j = f + 1
      · subst e
        simp only [if_pos]
        exact g1
      · simp only [if_neg e]
        exact (g2 _ (by omega)).trans (hW j hj)
    · omega
  · intro i hi ih M2 g1 g2
    have hc2 := hc.kept (M' := M2) (fun x _ _ => g2 x (by omega))
    have hc2a := hc2.1
    have h1' := (g2 D (by omega)).trans h1
    have h4' := (g2 (D + 14) (by omega)).trans h4
    have hwf := (g2 (D + 15 + f) (by omega)).trans (hW f (by omega))
    have hle : s &&& ct f i ≤ s := Nat.and_le_left
    refine g_iload d_Di_countWaysBehind_10 rfl ?_
    refine g_aload_n d_Di_countWaysBehind_12 rfl ?_
    refine g_callV s_Di_86 sv_Cu_size (by assumption) rfl (g_of_val (k_Cu_size hc2)) (by omega) rfl (by omega) (by omega) rfl (Nat.le_of_ble_eq_true rfl) d_Di_countWaysBehind_13 ?_
    rintro _ _ _ ⟨rfl, rfl, rfl⟩
    refine g_icmpN_ge (tgt := 60) d_Di_countWaysBehind_16 (by decide) (by omega) (by omega) (fun hb_16 => ?_) (fun hb_16 => ?_)
    · omega
    refine g_aload_n d_Di_countWaysBehind_19 rfl ?_
    refine g_get f_Di_26 (by assumption) rfl d_Di_countWaysBehind_20 ?_
    refine g_iload_n d_Di_countWaysBehind_23 rfl ?_
    refine g_iconst (v := nI 1) d_Di_countWaysBehind_24 (by decide) ?_
    refine g_iadd d_Di_countWaysBehind_25 ?_
    refine g_eqi (nI_add _ _) ?_
    refine g_aald (f + 1) (by assumption) rfl rfl rfl (by omega) (by decide) (h5 (f + 1) (by omega)) d_Di_countWaysBehind_26 ?_
    refine g_iload_n d_Di_countWaysBehind_27 rfl ?_
    refine g_aload_n d_Di_countWaysBehind_28 rfl ?_
    refine g_iload d_Di_countWaysBehind_29 rfl ?_
    refine g_callV s_Di_87 sv_Cu_set (by assumption) rfl (g_of_val (k_Cu_set hc2 i hi)) (by omega) rfl (by omega) (by omega) rfl (Nat.le_of_ble_eq_true rfl) d_Di_countWaysBehind_31 ?_
    rintro _ _ _ ⟨rfl, rfl, rfl⟩
    refine g_iand d_Di_countWaysBehind_34 ?_
    refine g_eqi (nI_and _ _) ?_
    refine g_dup2 d_Di_countWaysBehind_35 rfl rfl ?_
    refine g_iald _ (by assumption) rfl (by omega) (by decide) d_Di_countWaysBehind_36 ?_
    refine g_aload_n d_Di_countWaysBehind_37 rfl ?_
    refine g_get f_Di_26 (by assumption) rfl d_Di_countWaysBehind_38 ?_
    refine g_iload_n d_Di_countWaysBehind_41 rfl ?_
    refine g_aald f (by assumption) rfl rfl rfl (by omega) (by decide) (h5 f (by omega)) d_Di_countWaysBehind_42 ?_
    refine g_iload_n d_Di_countWaysBehind_43 rfl ?_
    refine g_iald _ (by assumption) rfl (by omega) (by decide) d_Di_countWaysBehind_44 ?_
    refine g_aload_n d_Di_countWaysBehind_45 rfl ?_
    refine g_iload d_Di_countWaysBehind_46 rfl ?_
    refine g_callV s_Di_90 sv_Cu_width (by assumption) rfl (g_of_val (k_Cu_width hc2 i hi)) (by omega) rfl (by omega) (by omega) rfl (Nat.le_of_ble_eq_true rfl) d_Di_countWaysBehind_48 ?_
    rintro _ _ _ ⟨rfl, rfl, rfl⟩
    refine g_imul d_Di_countWaysBehind_51 ?_
    refine g_eqi (pk_mul _ _) ?_
    refine g_iadd d_Di_countWaysBehind_52 ?_
    refine g_eqi (nI_add _ _) ?_
    refine g_iast _ (by assumption) rfl (by omega) (by decide) d_Di_countWaysBehind_53 ?_
    refine g_nm (fun M3 e3 f3 => ?_)
    refine g_iinc1 d_Di_countWaysBehind_54 rfl (by decide) ?_
    refine g_goto (tgt := 10) d_Di_countWaysBehind_57 (by decide) ?_
    refine ih M3 ?_ (fun x hx => (f3 x hx).trans (g2 x hx))
    rw [e3, upd_nI]
    rfl
theorem k_Di_areAlike (h : o_dB E M D q S) (hC : o_dC E M D cn cs ct) (hL : o_dW E M (D + 21) lk) (f a b : Nat) (hf : f < 4) (hlk : ∀ x, x < 256 → lk (f + 1) x < 256) (ha : a < 256) (hb : b < 256) : Ctr l E y_Di_areAlike 2 [.ref D, .int (nI f), .int (nI a), .int (nI b)] N M 0 0 (g_val (some (.int (bI (alk (lk (f + 1)) (ct f) (cn f) a b)))) N M) := by
  have h0 := h
  obtain ⟨h1, ⟨fa, h2, h3⟩, h4⟩ := h
  have hc := hC f hf
  have hca := hc.1
  have hn := hc.2.2.1
  refine ctr_of [some (.ref D), some (.int (nI f)), some (.int (nI a)), some (.int (nI b)), none] (by decide) w_791 rfl rfl (Nat.le_of_ble_eq_true rfl) (fun Γ => ?_)
  refine g_iconst (v := nI 0) d_Di_areAlike_0 (by decide) ?_
  refine g_istore d_Di_areAlike_1 (by decide) ?_
  refine g_for (P := fun i => (∀ r, r < i → lk (f + 1) (a &&& ct f r) = lk (f + 1) (b &&& ct f r)) → G _ _ _ _ _ _ _ _ _ _ _ _ 3 [some (.ref D), some (.int (nI f)), some (.int (nI a)), some (.int (nI b)), some (.int (nI i))] [] N M 0 0) (e := cn f) ?_ ?_ 0 (by omega) (fun r hr => by omega)
  · intro hn
    refine g_iload d_Di_areAlike_3 rfl ?_
    refine g_aload_n d_Di_areAlike_5 rfl ?_
    refine g_get f_Di_17 (by assumption) rfl d_Di_areAlike_6 ?_
    refine g_iload_n d_Di_areAlike_9 rfl ?_
    refine g_aald f (by assumption) rfl rfl rfl hf (by decide) (h3 f hf) d_Di_areAlike_10 ?_
    refine g_callV s_Di_86 sv_Cu_size (by assumption) rfl (g_of_val (k_Cu_size hc)) (by omega) rfl (by omega) (by omega) rfl (Nat.le_of_ble_eq_true rfl) d_Di_areAlike_11 ?_
    rintro _ _ _ ⟨rfl, rfl, rfl⟩
    refine g_icmpN_ge (tgt := 44) d_Di_areAlike_14 (by decide) (by omega) (by omega) (fun hb_14 => ?_) (fun hb_14 => ?_)
    · refine g_iconst (v := nI 1) d_Di_areAlike_44 (by decide) ?_
      refine g_Tr (b := alk (lk (f + 1)) (ct f) (cn f) a b) (decide_eq_true hn) ?_
      exact g_ireturn rfl (by first | rfl | exact bI_nar _) (by omega) (by omega) d_Di_areAlike_45 ⟨rfl, rfl, rfl⟩
    · omega
  · intro i hi ih hn
    have hA := hlk (a &&& ct f i) (Nat.lt_of_le_of_lt Nat.and_le_left ha)
    have hB := hlk (b &&& ct f i) (Nat.lt_of_le_of_lt Nat.and_le_left hb)
    refine g_iload d_Di_areAlike_3 rfl ?_
    refine g_aload_n d_Di_areAlike_5 rfl ?_
    refine g_get f_Di_17 (by assumption) rfl d_Di_areAlike_6 ?_
    refine g_iload_n d_Di_areAlike_9 rfl ?_
    refine g_aald f (by assumption) rfl rfl rfl hf (by decide) (h3 f hf) d_Di_areAlike_10 ?_
    refine g_callV s_Di_86 sv_Cu_size (by assumption) rfl (g_of_val (k_Cu_size hc)) (by omega) rfl (by omega) (by omega) rfl (Nat.le_of_ble_eq_true rfl) d_Di_areAlike_11 ?_
    rintro _ _ _ ⟨rfl, rfl, rfl⟩
    refine g_icmpN_ge (tgt := 44) d_Di_areAlike_14 (by decide) (by omega) (by omega) (fun hb_14 => ?_) (fun hb_14 => ?_)
    · omega
    refine g_aload_n d_Di_areAlike_17 rfl ?_
    refine g_iload_n d_Di_areAlike_18 rfl ?_
    refine g_iload_n d_Di_areAlike_19 rfl ?_
    refine g_iload d_Di_areAlike_20 rfl ?_
    refine g_callV s_Di_97 sv_Di_restOf (by assumption) rfl (g_of_val (k_Di_restOf h0 hC hL f a i hf ha hi)) (by omega) rfl (by omega) (by omega) rfl (Nat.le_of_ble_eq_true rfl) d_Di_areAlike_22 ?_
    rintro _ _ _ ⟨rfl, rfl, rfl⟩
    refine g_aload_n d_Di_areAlike_25 rfl ?_
    refine g_iload_n d_Di_areAlike_26 rfl ?_
    refine g_iload_n d_Di_areAlike_27 rfl ?_
    refine g_iload d_Di_areAlike_28 rfl ?_
    refine g_callV s_Di_97 sv_Di_restOf (by assumption) rfl (g_of_val (k_Di_restOf h0 hC hL f b i hf hb hi)) (by omega) rfl (by omega) (by omega) rfl (Nat.le_of_ble_eq_true rfl) d_Di_areAlike_30 ?_
    rintro _ _ _ ⟨rfl, rfl, rfl⟩
    refine g_icmpN_eq (tgt := 38) d_Di_areAlike_33 (by decide) (by omega) (by omega) (fun hb_33 => ?_) (fun hb_33 => ?_)
    · refine g_iinc1 d_Di_areAlike_38 rfl (by decide) ?_
      refine g_goto (tgt := 3) d_Di_areAlike_41 (by decide) ?_
      refine ih (fun r hr => ?_)
      by_cases e : r = i
      · rw [e]; exact hb_33
      · exact hn r (by omega)
    · refine g_iconst (v := nI 0) d_Di_areAlike_36 (by decide) ?_
      refine g_Fa (b := alk (lk (f + 1)) (ct f) (cn f) a b) (decide_eq_false (fun q => hb_33 (q i hi))) ?_
      exact g_ireturn rfl (by first | rfl | exact bI_nar _) (by omega) (by omega) d_Di_areAlike_37 ⟨rfl, rfl, rfl⟩
theorem k_Di_firstLike (h : o_dB E M D q S) (hC : o_dC E M D cn cs ct) (hW : o_dW E M (D + 15) wy) (hL : o_dW E M (D + 21) lk) (f s : Nat) (hf : f < 4) (hwy : ∀ x, x < 256 → wy f x < 2 ^ 31) (hlk : ∀ x, x < 256 → lk (f + 1) x < 256) (hlf : ∀ x, x < 256 → lk f x < 256) (hs : s < 256) : Ctr l E y_Di_firstLike 3 [.ref D, .int (nI f), .int (nI s)] N M 0 0 (g_val (some (.int (nI (flk (wy f) (lk f) (lk (f + 1)) (ct f) (cn f) s)))) N M) := by
  have h0 := h
  obtain ⟨h1, h2, h4, fc, h6, h7⟩ := h
  have hw := hL f (by omega)
  refine ctr_of [some (.ref D), some (.int (nI f)), some (.int (nI s)), none] (by decide) w_787 rfl rfl (Nat.le_of_ble_eq_true rfl) (fun Γ => ?_)
  refine g_iconst (v := nI 0) d_Di_firstLike_0 (by decide) ?_
  refine g_istore_n d_Di_firstLike_1 (by decide) ?_
  refine g_for (P := fun i => (∀ o, o < i → (decide (0 < wy f o) && (decide (lk f o = o) && alk (lk (f + 1)) (ct f) (cn f) o s)) = false) → G _ _ _ _ _ _ _ _ _ _ _ _ 2 [some (.ref D), some (.int (nI f)), some (.int (nI s)), some (.int (nI i))] [] N M 0 0) (e := s) ?_ ?_ 0 (by omega) (fun r hr => by omega)
  · intro hn
    refine g_iload_n d_Di_firstLike_2 rfl ?_
    refine g_iload_n d_Di_firstLike_3 rfl ?_
    refine g_icmpN_ge (tgt := 46) d_Di_firstLike_4 (by decide) (by omega) (by omega) (fun hb_4 => ?_) (fun hb_4 => ?_)
    · refine g_iload_n d_Di_firstLike_46 rfl ?_
      refine g_eqi (z := nI (flk (wy f) (lk f) (lk (f + 1)) (ct f) (cn f) s)) (by unfold flk; rw [fi_none hn]) ?_
      exact g_ireturn rfl (by first | rfl | exact bI_nar _) (by omega) (by omega) d_Di_firstLike_47 ⟨rfl, rfl, rfl⟩
    · omega
  · intro i hi ih hn
    have hstep : (decide (0 < wy f i) && (decide (lk f i = i) && alk (lk (f + 1)) (ct f) (cn f) i s)) = false → ∀ o, o < i + 1 → (decide (0 < wy f o) && (decide (lk f o = o) && alk (lk (f + 1)) (ct f) (cn f) o s)) = false := by
      intro hx o ho
      by_cases e : o = i
      · rw [e]; exact hx
      · exact hn o (by omega)
    have hwi := hwy i (by omega)
    have hli := hlf i (by omega)
    refine g_iload_n d_Di_firstLike_2 rfl ?_
    refine g_iload_n d_Di_firstLike_3 rfl ?_
    refine g_icmpN_ge (tgt := 46) d_Di_firstLike_4 (by decide) (by omega) (by omega) (fun hb_4 => ?_) (fun hb_4 => ?_)
    · omega
    refine g_aload_n d_Di_firstLike_7 rfl ?_
    refine g_iload_n d_Di_firstLike_8 rfl ?_
    refine g_iload_n d_Di_firstLike_9 rfl ?_
    refine g_callV s_Di_63 sv_Di_isTable (by assumption) rfl (g_of_val (k_Di_isTable h0 hW f i (by omega) (by omega) hwi)) (by omega) rfl (by omega) (by omega) rfl (Nat.le_of_ble_eq_true rfl) d_Di_firstLike_10 ?_
    rintro _ _ _ ⟨rfl, rfl, rfl⟩
    first | refine g_ifB_eq (tgt := 40) d_Di_firstLike_13 (by decide) (fun hb_13 => ?_) (fun hb_13 => ?_) | refine g_ifN_eq (tgt := 40) d_Di_firstLike_13 (by decide) (by omega) (fun hb_13 => ?_) (fun hb_13 => ?_)
    · refine g_iinc1 d_Di_firstLike_40 rfl (by decide) ?_
      refine g_goto (tgt := 2) d_Di_firstLike_43 (by decide) ?_
      exact ih (hstep (by rw [hb_13]; rfl))
    refine g_aload_n d_Di_firstLike_16 rfl ?_
    refine g_get f_Di_29 (by assumption) rfl d_Di_firstLike_17 ?_
    refine g_iload_n d_Di_firstLike_20 rfl ?_
    refine g_aald f (by assumption) rfl rfl rfl (by omega) (by decide) (h7 f (by omega)) d_Di_firstLike_21 ?_
    refine g_iload_n d_Di_firstLike_22 rfl ?_
    refine g_iald _ (by assumption) rfl (by omega) (by decide) d_Di_firstLike_23 ?_
    refine g_iload_n d_Di_firstLike_24 rfl ?_
    refine g_icmpN_ne (tgt := 40) d_Di_firstLike_25 (by decide) (by omega) (by omega) (fun hb_25 => ?_) (fun hb_25 => ?_)
    · refine g_iinc1 d_Di_firstLike_40 rfl (by decide) ?_
      refine g_goto (tgt := 2) d_Di_firstLike_43 (by decide) ?_
      exact ih (hstep (by rw [decide_eq_false hb_25, Bool.false_and, Bool.and_false]))
    refine g_aload_n d_Di_firstLike_28 rfl ?_
    refine g_iload_n d_Di_firstLike_29 rfl ?_
    refine g_iload_n d_Di_firstLike_30 rfl ?_
    refine g_iload_n d_Di_firstLike_31 rfl ?_
    refine g_callV s_Di_93 sv_Di_areAlike (by assumption) rfl (g_of_val (k_Di_areAlike h0 hC hL f i s hf hlk (by omega) hs)) (by omega) rfl (by omega) (by omega) rfl (Nat.le_of_ble_eq_true rfl) d_Di_firstLike_32 ?_
    rintro _ _ _ ⟨rfl, rfl, rfl⟩
    first | refine g_ifB_eq (tgt := 40) d_Di_firstLike_35 (by decide) (fun hb_35 => ?_) (fun hb_35 => ?_) | refine g_ifN_eq (tgt := 40) d_Di_firstLike_35 (by decide) (by omega) (fun hb_35 => ?_) (fun hb_35 => ?_)
    · refine g_iinc1 d_Di_firstLike_40 rfl (by decide) ?_
      refine g_goto (tgt := 2) d_Di_firstLike_43 (by decide) ?_
      exact ih (hstep (by rw [hb_35, Bool.and_false, Bool.and_false]))
    refine g_iload_n d_Di_firstLike_38 rfl ?_
    refine g_eqi (z := nI (flk (wy f) (lk f) (lk (f + 1)) (ct f) (cn f) s)) (by unfold flk; rw [fi_at hi (by rw [hb_13, decide_eq_true hb_25, hb_35]; rfl) hn]) ?_
    exact g_ireturn rfl (by first | rfl | exact bI_nar _) (by omega) (by omega) d_Di_firstLike_39 ⟨rfl, rfl, rfl⟩
theorem k_Di_rowsOf (h : o_dB E M D q S) (hC : o_dC E M D cn cs ct) (hL : o_dW E M (D + 21) lk) (f s : Nat) (hf : f < 4) (hlk : ∀ x, x < 256 → lk (f + 1) x < 256) (hs : s < 256) : Ctr l E y_Di_rowsOf 2 [.ref D, .int (nI f), .int (nI s)] N M 0 0 (g_val (some (.int (nI (rwo (fun r => lk (f + 1) (s &&& ct f r)) (cn f))))) N M) := by
  have h0 := h
  obtain ⟨h1, ⟨fa, h2, h3⟩, h4⟩ := h
  have hc := hC f hf
  have hca := hc.1
  have hn := hc.2.2.1
  have hp := hc.2.2.2.2.1.2.1
  refine ctr_of [some (.ref D), some (.int (nI f)), some (.int (nI s)), none, none] (by decide) w_807 rfl rfl (Nat.le_of_ble_eq_true rfl) (fun Γ => ?_)
  refine g_iconst (v := nI 1) d_Di_rowsOf_0 (by decide) ?_
  refine g_istore_n d_Di_rowsOf_1 (by decide) ?_
  refine g_iconst (v := nI 1) d_Di_rowsOf_2 (by decide) ?_
  refine g_istore d_Di_rowsOf_3 (by decide) ?_
  refine g_for (P := fun i => 1 ≤ i → G _ _ _ _ _ _ _ _ _ _ _ _ 5 [some (.ref D), some (.int (nI f)), some (.int (nI s)), some (.int (nI (1 + sm (fun r => if lk (f + 1) (s &&& ct f (r + 1)) = lk (f + 1) (s &&& ct f r) then 0 else 1) (i - 1)))), some (.int (nI i))] [] N M 0 0) (e := cn f) ?_ ?_ 1 (by omega) (by omega)
  · intro _
    refine g_iload d_Di_rowsOf_5 rfl ?_
    refine g_aload_n d_Di_rowsOf_7 rfl ?_
    refine g_get f_Di_17 (by assumption) rfl d_Di_rowsOf_8 ?_
    refine g_iload_n d_Di_rowsOf_11 rfl ?_
    refine g_aald f (by assumption) rfl rfl rfl hf (by decide) (h3 f hf) d_Di_rowsOf_12 ?_
    refine g_callV s_Di_86 sv_Cu_size (by assumption) rfl (g_of_val (k_Cu_size hc)) (by omega) rfl (by omega) (by omega) rfl (Nat.le_of_ble_eq_true rfl) d_Di_rowsOf_13 ?_
    rintro _ _ _ ⟨rfl, rfl, rfl⟩
    refine g_icmpN_ge (tgt := 49) d_Di_rowsOf_16 (by decide) (by omega) (by omega) (fun hb_16 => ?_) (fun hb_16 => ?_)
    · refine g_iload_n d_Di_rowsOf_49 rfl ?_
      exact g_ireturn rfl (by first | rfl | exact bI_nar _) (by omega) (by omega) d_Di_rowsOf_50 ⟨rfl, rfl, rfl⟩
    · omega
  · intro i hi ih h1i
    obtain ⟨k, rfl⟩ : ∃ k, i = k + 1 := ⟨i - 1, by omega⟩
    have hA := hlk (s &&& ct f (k + 1)) (Nat.lt_of_le_of_lt Nat.and_le_left hs)
    have hB := hlk (s &&& ct f k) (Nat.lt_of_le_of_lt Nat.and_le_left hs)
    have ih2 := ih (by omega)
    rw [show k + 1 + 1 - 1 = k + 1 from rfl, show sm (fun r => if lk (f + 1) (s &&& ct f (r + 1)) = lk (f + 1) (s &&& ct f r) then 0 else 1) (k + 1) = sm (fun r => if lk (f + 1) (s &&& ct f (r + 1)) = lk (f + 1) (s &&& ct f r) then 0 else 1) k + (if lk (f + 1) (s &&& ct f (k + 1)) = lk (f + 1) (s &&& ct f k) then 0 else 1) from rfl] at ih2
    refine g_iload d_Di_rowsOf_5 rfl ?_
    refine g_aload_n d_Di_rowsOf_7 rfl ?_
    refine g_get f_Di_17 (by assumption) rfl d_Di_rowsOf_8 ?_
    refine g_iload_n d_Di_rowsOf_11 rfl ?_
    refine g_aald f (by assumption) rfl rfl rfl hf (by decide) (h3 f hf) d_Di_rowsOf_12 ?_
    refine g_callV s_Di_86 sv_Cu_size (by assumption) rfl (g_of_val (k_Cu_size hc)) (by omega) rfl (by omega) (by omega) rfl (Nat.le_of_ble_eq_true rfl) d_Di_rowsOf_13 ?_
    rintro _ _ _ ⟨rfl, rfl, rfl⟩
    refine g_icmpN_ge (tgt := 49) d_Di_rowsOf_16 (by decide) (by omega) (by omega) (fun hb_16 => ?_) (fun hb_16 => ?_)
    · omega
    refine g_aload_n d_Di_rowsOf_19 rfl ?_
    refine g_iload_n d_Di_rowsOf_20 rfl ?_
    refine g_iload_n d_Di_rowsOf_21 rfl ?_
    refine g_iload d_Di_rowsOf_22 rfl ?_
    refine g_callV s_Di_97 sv_Di_restOf (by assumption) rfl (g_of_val (k_Di_restOf h0 hC hL f s (k + 1) hf hs hi)) (by omega) rfl (by omega) (by omega) rfl (Nat.le_of_ble_eq_true rfl) d_Di_rowsOf_24 ?_
    rintro _ _ _ ⟨rfl, rfl, rfl⟩
    refine g_aload_n d_Di_rowsOf_27 rfl ?_
    refine g_iload_n d_Di_rowsOf_28 rfl ?_
    refine g_iload_n d_Di_rowsOf_29 rfl ?_
    refine g_iload d_Di_rowsOf_30 rfl ?_
    refine g_iconst (v := nI 1) d_Di_rowsOf_32 (by decide) ?_
    refine g_isub d_Di_rowsOf_33 ?_
    refine g_eqi (z := nI k) (pk_sub (by omega)) ?_
    refine g_callV s_Di_97 sv_Di_restOf (by assumption) rfl (g_of_val (k_Di_restOf h0 hC hL f s k hf hs (by omega))) (by omega) rfl (by omega) (by omega) rfl (Nat.le_of_ble_eq_true rfl) d_Di_rowsOf_34 ?_
    rintro _ _ _ ⟨rfl, rfl, rfl⟩
    refine g_icmpN_eq (tgt := 43) d_Di_rowsOf_37 (by decide) (by omega) (by omega) (fun hb_37 => ?_) (fun hb_37 => ?_)
    · rw [if_pos hb_37] at ih2
      refine g_iinc1 d_Di_rowsOf_43 rfl (by decide) ?_
      refine g_goto (tgt := 5) d_Di_rowsOf_46 (by decide) ?_
      exact ih2
    · rw [if_neg hb_37] at ih2
      refine g_iinc1 d_Di_rowsOf_40 rfl (by decide) ?_
      refine g_iinc1 d_Di_rowsOf_43 rfl (by decide) ?_
      refine g_goto (tgt := 5) d_Di_rowsOf_46 (by decide) ?_
      exact ih2
theorem k_Di_isNode (h : o_dB E M D q S) (hC : o_dC E M D cn cs ct) (hW : o_dW E M (D + 15) wy) (hL : o_dW E M (D + 21) lk) (f s : Nat) (hf : f < 4) (hwy : ∀ x, x < 256 → wy f x < 2 ^ 31) (hlk : ∀ x, x < 256 → lk (f + 1) x < 256) (hlf : ∀ x, x < 256 → lk f x < 256) (hs : s < 256) : Ctr l E y_Di_isNode 3 [.ref D, .int (nI f), .int (nI s)] N M 0 0 (g_val (some (.int (bI (ndo (wy f) (lk f) (lk (f + 1)) (ct f) (cn f) s)))) N M) := by
  have h0 := h
  obtain ⟨h1, h2, h4, fc, h6, h7⟩ := h
  have hw := hL f (by omega)
  have hws := hwy s hs
  have hls := hlf s hs
  have hn := (hC f hf).2.2.1
  have hrw : rwo (fun r => lk (f + 1) (s &&& ct f r)) (cn f) < 100 := by
    unfold rwo
    have h9 : sm (fun r => if lk (f + 1) (s &&& ct f (r + 1)) = lk (f + 1) (s &&& ct f r) then 0 else 1) (cn f - 1) ≤ sm (fun _ => 1) (cn f - 1) := sm_le (fun i _ => by split <;> omega)
    rw [sm_const] at h9
    show 1 + sm (fun r => if lk (f + 1) (s &&& ct f (r + 1)) = lk (f + 1) (s &&& ct f r) then 0 else 1) (cn f - 1) < 100
    omega
  refine ctr_of [some (.ref D), some (.int (nI f)), some (.int (nI s))] (by decide) w_803 rfl rfl (Nat.le_of_ble_eq_true rfl) (fun Γ => ?_)
  refine g_aload_n d_Di_isNode_0 rfl ?_
  refine g_iload_n d_Di_isNode_1 rfl ?_
  refine g_iload_n d_Di_isNode_2 rfl ?_
  refine g_callV s_Di_63 sv_Di_isTable (by assumption) rfl (g_of_val (k_Di_isTable h0 hW f s (by omega) hs hws)) (by omega) rfl (by omega) (by omega) rfl (Nat.le_of_ble_eq_true rfl) d_Di_isNode_3 ?_
  rintro _ _ _ ⟨rfl, rfl, rfl⟩
  first | refine g_ifB_eq (tgt := 35) d_Di_isNode_6 (by decide) (fun hb_6 => ?_) (fun hb_6 => ?_) | refine g_ifN_eq (tgt := 35) d_Di_isNode_6 (by decide) (by omega) (fun hb_6 => ?_) (fun hb_6 => ?_)
  · refine g_iconst (v := nI 0) d_Di_isNode_35 (by decide) ?_
    refine g_Fa (b := ndo (wy f) (lk f) (lk (f + 1)) (ct f) (cn f) s) (by unfold ndo; rw [hb_6]; rfl) ?_
    exact g_ireturn rfl (by first | rfl | exact bI_nar _) (by omega) (by omega) d_Di_isNode_36 ⟨rfl, rfl, rfl⟩
  refine g_aload_n d_Di_isNode_9 rfl ?_
  refine g_get f_Di_29 (by assumption) rfl d_Di_isNode_10 ?_
  refine g_iload_n d_Di_isNode_13 rfl ?_
  refine g_aald f (by assumption) rfl rfl rfl (by omega) (by decide) (h7 f (by omega)) d_Di_isNode_14 ?_
  refine g_iload_n d_Di_isNode_15 rfl ?_
  refine g_iald _ (by assumption) rfl (by omega) (by decide) d_Di_isNode_16 ?_
  refine g_iload_n d_Di_isNode_17 rfl ?_
  refine g_icmpN_ne (tgt := 35) d_Di_isNode_18 (by decide) (by omega) (by omega) (fun hb_18 => ?_) (fun hb_18 => ?_)
  · refine g_iconst (v := nI 0) d_Di_isNode_35 (by decide) ?_
    refine g_Fa (b := ndo (wy f) (lk f) (lk (f + 1)) (ct f) (cn f) s) (by unfold ndo; rw [decide_eq_false hb_18, Bool.false_and, Bool.and_false]) ?_
    exact g_ireturn rfl (by first | rfl | exact bI_nar _) (by omega) (by omega) d_Di_isNode_36 ⟨rfl, rfl, rfl⟩
  refine g_aload_n d_Di_isNode_21 rfl ?_
  refine g_iload_n d_Di_isNode_22 rfl ?_
  refine g_iload_n d_Di_isNode_23 rfl ?_
  refine g_callV s_Di_74 sv_Di_rowsOf (by assumption) rfl (g_of_val (k_Di_rowsOf h0 hC hL f s hf hlk hs)) (by omega) rfl (by omega) (by omega) rfl (Nat.le_of_ble_eq_true rfl) d_Di_isNode_24 ?_
  rintro _ _ _ ⟨rfl, rfl, rfl⟩
  refine g_iconst (v := nI 1) d_Di_isNode_27 (by decide) ?_
  refine g_icmpN_le (tgt := 35) d_Di_isNode_28 (by decide) (by omega) (by omega) (fun hb_28 => ?_) (fun hb_28 => ?_)
  · refine g_iconst (v := nI 0) d_Di_isNode_35 (by decide) ?_
    refine g_Fa (b := ndo (wy f) (lk f) (lk (f + 1)) (ct f) (cn f) s) (by unfold ndo; rw [decide_eq_false (p := 1 < _) (by omega), Bool.and_false, Bool.and_false]) ?_
    exact g_ireturn rfl (by first | rfl | exact bI_nar _) (by omega) (by omega) d_Di_isNode_36 ⟨rfl, rfl, rfl⟩
  refine g_iconst (v := nI 1) d_Di_isNode_31 (by decide) ?_
  refine g_goto (tgt := 36) d_Di_isNode_32 (by decide) ?_
  refine g_Tr (b := ndo (wy f) (lk f) (lk (f + 1)) (ct f) (cn f) s) (by unfold ndo; rw [hb_6, decide_eq_true hb_18, decide_eq_true (p := 1 < _) (by omega)]; rfl) ?_
  exact g_ireturn rfl (by first | rfl | exact bI_nar _) (by omega) (by omega) d_Di_isNode_36 ⟨rfl, rfl, rfl⟩
theorem k_Di_nodesOf (h : o_dB E M D q S) (hS : S ≤ 256) (hC : o_dC E M D cn cs ct) (hW : o_dW E M (D + 15) wy) (hL : o_dW E M (D + 21) lk) (f : Nat) (hf : f < 4) (hwy : ∀ x, x < 256 → wy f x < 2 ^ 31) (hlk : ∀ x, x < 256 → lk (f + 1) x < 256) (hlf : ∀ x, x < 256 → lk f x < 256) : Ctr l E y_Di_nodesOf 4 [.ref D, .int (nI f)] N M 0 0 (g_val (some (.int (nI (sm (fun s => if ndo (wy f) (lk f) (lk (f + 1)) (ct f) (cn f) s = true then 1 else 0) S)))) N M) := by
  have h0 := h
  obtain ⟨h1, h2⟩ := h
  refine ctr_of [some (.ref D), some (.int (nI f)), none, none] (by decide) w_799 rfl rfl (Nat.le_of_ble_eq_true rfl) (fun Γ => ?_)
  refine g_iconst (v := nI 0) d_Di_nodesOf_0 (by decide) ?_
  refine g_istore_n d_Di_nodesOf_1 (by decide) ?_
  refine g_iconst (v := nI 0) d_Di_nodesOf_2 (by decide) ?_
  refine g_istore_n d_Di_nodesOf_3 (by decide) ?_
  refine g_for (P := fun i => G _ _ _ _ _ _ _ _ _ _ _ _ 4 [some (.ref D), some (.int (nI f)), some (.int (nI (sm (fun s => if ndo (wy f) (lk f) (lk (f + 1)) (ct f) (cn f) s = true then 1 else 0) i))), some (.int (nI i))] [] N M 0 0) (e := S) ?_ ?_ 0 (by omega)
  · refine g_iload_n d_Di_nodesOf_4 rfl ?_
    refine g_aload_n d_Di_nodesOf_5 rfl ?_
    refine g_get f_Di_32 (by assumption) rfl d_Di_nodesOf_6 ?_
    refine g_icmpN_ge (tgt := 30) d_Di_nodesOf_9 (by decide) (by omega) (by omega) (fun hb_9 => ?_) (fun hb_9 => ?_)
    · refine g_iload_n d_Di_nodesOf_30 rfl ?_
      exact g_ireturn rfl (by first | rfl | exact bI_nar _) (by omega) (by omega) d_Di_nodesOf_31 ⟨rfl, rfl, rfl⟩
    · omega
  · intro i hi ih
    rw [show sm (fun s => if ndo (wy f) (lk f) (lk (f + 1)) (ct f) (cn f) s = true then 1 else 0) (i + 1) = sm (fun s => if ndo (wy f) (lk f) (lk (f + 1)) (ct f) (cn f) s = true then 1 else 0) i + (if ndo (wy f) (lk f) (lk (f + 1)) (ct f) (cn f) i = true then 1 else 0) from rfl] at ih
    refine g_iload_n d_Di_nodesOf_4 rfl ?_
    refine g_aload_n d_Di_nodesOf_5 rfl ?_
    refine g_get f_Di_32 (by assumption) rfl d_Di_nodesOf_6 ?_
    refine g_icmpN_ge (tgt := 30) d_Di_nodesOf_9 (by decide) (by omega) (by omega) (fun hb_9 => ?_) (fun hb_9 => ?_)
    · omega
    refine g_aload_n d_Di_nodesOf_12 rfl ?_
    refine g_iload_n d_Di_nodesOf_13 rfl ?_
    refine g_iload_n d_Di_nodesOf_14 rfl ?_
    refine g_callV s_Di_71 sv_Di_isNode (by assumption) rfl (g_of_val (k_Di_isNode h0 hC hW hL f i hf hwy hlk hlf (by omega))) (by omega) rfl (by omega) (by omega) rfl (Nat.le_of_ble_eq_true rfl) d_Di_nodesOf_15 ?_
    rintro _ _ _ ⟨rfl, rfl, rfl⟩
    first | refine g_ifB_eq (tgt := 24) d_Di_nodesOf_18 (by decide) (fun hb_18 => ?_) (fun hb_18 => ?_) | refine g_ifN_eq (tgt := 24) d_Di_nodesOf_18 (by decide) (by omega) (fun hb_18 => ?_) (fun hb_18 => ?_)
    · rw [if_neg (by rw [hb_18]; decide)] at ih
      refine g_iinc1 d_Di_nodesOf_24 rfl (by decide) ?_
      refine g_goto (tgt := 4) d_Di_nodesOf_27 (by decide) ?_
      exact ih
    · rw [if_pos hb_18] at ih
      refine g_iinc1 d_Di_nodesOf_21 rfl (by decide) ?_
      refine g_iinc1 d_Di_nodesOf_24 rfl (by decide) ?_
      refine g_goto (tgt := 4) d_Di_nodesOf_27 (by decide) ?_
      exact ih
theorem k_Di_edgesOf (h : o_dB E M D q S) (hS : S ≤ 256) (hC : o_dC E M D cn cs ct) (hW : o_dW E M (D + 15) wy) (hL : o_dW E M (D + 21) lk) (f : Nat) (hf : f < 4) (hwy : ∀ x, x < 256 → wy f x < 2 ^ 31) (hlk : ∀ x, x < 256 → lk (f + 1) x < 256) (hlf : ∀ x, x < 256 → lk f x < 256) : Ctr l E y_Di_edgesOf 4 [.ref D, .int (nI f)] N M 0 0 (g_val (some (.int (nI (sm (fun s => if ndo (wy f) (lk f) (lk (f + 1)) (ct f) (cn f) s = true then rwo (fun r => lk (f + 1) (s &&& ct f r)) (cn f) else 0) S)))) N M) := by
  have h0 := h
  obtain ⟨h1, h2⟩ := h
  refine ctr_of [some (.ref D), some (.int (nI f)), none, none] (by decide) w_818 rfl rfl (Nat.le_of_ble_eq_true rfl) (fun Γ => ?_)
  refine g_iconst (v := nI 0) d_Di_edgesOf_0 (by decide) ?_
  refine g_istore_n d_Di_edgesOf_1 (by decide) ?_
  refine g_iconst (v := nI 0) d_Di_edgesOf_2 (by decide) ?_
  refine g_istore_n d_Di_edgesOf_3 (by decide) ?_
  refine g_for (P := fun i => G _ _ _ _ _ _ _ _ _ _ _ _ 4 [some (.ref D), some (.int (nI f)), some (.int (nI (sm (fun s => if ndo (wy f) (lk f) (lk (f + 1)) (ct f) (cn f) s = true then rwo (fun r => lk (f + 1) (s &&& ct f r)) (cn f) else 0) i))), some (.int (nI i))] [] N M 0 0) (e := S) ?_ ?_ 0 (by omega)
  · refine g_iload_n d_Di_edgesOf_4 rfl ?_
    refine g_aload_n d_Di_edgesOf_5 rfl ?_
    refine g_get f_Di_32 (by assumption) rfl d_Di_edgesOf_6 ?_
    refine g_icmpN_ge (tgt := 36) d_Di_edgesOf_9 (by decide) (by omega) (by omega) (fun hb_9 => ?_) (fun hb_9 => ?_)
    · refine g_iload_n d_Di_edgesOf_36 rfl ?_
      exact g_ireturn rfl (by first | rfl | exact bI_nar _) (by omega) (by omega) d_Di_edgesOf_37 ⟨rfl, rfl, rfl⟩
    · omega
  · intro i hi ih
    rw [show sm (fun s => if ndo (wy f) (lk f) (lk (f + 1)) (ct f) (cn f) s = true then rwo (fun r => lk (f + 1) (s &&& ct f r)) (cn f) else 0) (i + 1) = sm (fun s => if ndo (wy f) (lk f) (lk (f + 1)) (ct f) (cn f) s = true then rwo (fun r => lk (f + 1) (s &&& ct f r)) (cn f) else 0) i + (if ndo (wy f) (lk f) (lk (f + 1)) (ct f) (cn f) i = true then rwo (fun r => lk (f + 1) (i &&& ct f r)) (cn f) else 0) from rfl] at ih
    refine g_iload_n d_Di_edgesOf_4 rfl ?_
    refine g_aload_n d_Di_edgesOf_5 rfl ?_
    refine g_get f_Di_32 (by assumption) rfl d_Di_edgesOf_6 ?_
    refine g_icmpN_ge (tgt := 36) d_Di_edgesOf_9 (by decide) (by omega) (by omega) (fun hb_9 => ?_) (fun hb_9 => ?_)
    · omega
    refine g_aload_n d_Di_edgesOf_12 rfl ?_
    refine g_iload_n d_Di_edgesOf_13 rfl ?_
    refine g_iload_n d_Di_edgesOf_14 rfl ?_
    refine g_callV s_Di_71 sv_Di_isNode (by assumption) rfl (g_of_val (k_Di_isNode h0 hC hW hL f i hf hwy hlk hlf (by omega))) (by omega) rfl (by omega) (by omega) rfl (Nat.le_of_ble_eq_true rfl) d_Di_edgesOf_15 ?_
    rintro _ _ _ ⟨rfl, rfl, rfl⟩
    first | refine g_ifB_eq (tgt := 30) d_Di_edgesOf_18 (by decide) (fun hb_18 => ?_) (fun hb_18 => ?_) | refine g_ifN_eq (tgt := 30) d_Di_edgesOf_18 (by decide) (by omega) (fun hb_18 => ?_) (fun hb_18 => ?_)
    · rw [if_neg (by rw [hb_18]; decide)] at ih
      refine g_iinc1 d_Di_edgesOf_30 rfl (by decide) ?_
      refine g_goto (tgt := 4) d_Di_edgesOf_33 (by decide) ?_
      exact ih
    · rw [if_pos hb_18] at ih
      refine g_iload_n d_Di_edgesOf_21 rfl ?_
      refine g_aload_n d_Di_edgesOf_22 rfl ?_
      refine g_iload_n d_Di_edgesOf_23 rfl ?_
      refine g_iload_n d_Di_edgesOf_24 rfl ?_
      refine g_callV s_Di_74 sv_Di_rowsOf (by assumption) rfl (g_of_val (k_Di_rowsOf h0 hC hL f i hf hlk (by omega))) (by omega) rfl (by omega) (by omega) rfl (Nat.le_of_ble_eq_true rfl) d_Di_edgesOf_25 ?_
      rintro _ _ _ ⟨rfl, rfl, rfl⟩
      refine g_iadd d_Di_edgesOf_28 ?_
      refine g_eqi (nI_add _ _) ?_
      refine g_istore_n d_Di_edgesOf_29 (by decide) ?_
      refine g_iinc1 d_Di_edgesOf_30 rfl (by decide) ?_
      refine g_goto (tgt := 4) d_Di_edgesOf_33 (by decide) ?_
      exact ih
theorem k_Di_packetsWith (h : o_dB E M D q S) (hR : o_list E M q m rs) (hS : S = 2 ^ m) (hW : o_dW E M (D + 15) wy) (v : Nat) (hv : v < 2 ^ 31) : Ctr l E y_Di_packetsWith 3 [.ref D, .int (nI v)] N M 0 0 (g_val (some (.int (nI (sm (fun s => if jds rs s = v then wy 4 s else 0) S)))) N M) := by
  have h0 := h
  obtain ⟨h1, h2, ⟨fb, h4, h5⟩, h6⟩ := h
  have hw := hW 4 (by omega)
  have hm := hR.2.1
  have hra := hR.1
  have hS2 : S ≤ 256 := by rw [hS]; exact Nat.pow_le_pow_right (by omega) hm
  refine ctr_of [some (.ref D), some (.int (nI v)), none, none] (by decide) w_767 rfl rfl (Nat.le_of_ble_eq_true rfl) (fun Γ => ?_)
  refine g_iconst (v := nI 0) d_Di_packetsWith_0 (by decide) ?_
  refine g_istore_n d_Di_packetsWith_1 (by decide) ?_
  refine g_iconst (v := nI 0) d_Di_packetsWith_2 (by decide) ?_
  refine g_istore_n d_Di_packetsWith_3 (by decide) ?_
  refine g_for (P := fun i => G _ _ _ _ _ _ _ _ _ _ _ _ 4 [some (.ref D), some (.int (nI v)), some (.int (nI (sm (fun s => if jds rs s = v then wy 4 s else 0) i))), some (.int (nI i))] [] N M 0 0) (e := S) ?_ ?_ 0 (by omega)
  · refine g_iload_n d_Di_packetsWith_4 rfl ?_
    refine g_aload_n d_Di_packetsWith_5 rfl ?_
    refine g_get f_Di_32 (by assumption) rfl d_Di_packetsWith_6 ?_
    refine g_icmpN_ge (tgt := 41) d_Di_packetsWith_9 (by decide) (by omega) (by omega) (fun hb_9 => ?_) (fun hb_9 => ?_)
    · refine g_iload_n d_Di_packetsWith_41 rfl ?_
      exact g_ireturn rfl (by first | rfl | exact bI_nar _) (by omega) (by omega) d_Di_packetsWith_42 ⟨rfl, rfl, rfl⟩
    · omega
  · intro i hi ih
    rw [show sm (fun s => if jds rs s = v then wy 4 s else 0) (i + 1) = sm (fun s => if jds rs s = v then wy 4 s else 0) i + (if jds rs i = v then wy 4 i else 0) from rfl] at ih
    have hj : jds rs i < 3 := by
      unfold jds
      split
      · omega
      · exact (hR.2.2.1 _ (lb_n m hm i (by omega) (by assumption))).1
    refine g_iload_n d_Di_packetsWith_4 rfl ?_
    refine g_aload_n d_Di_packetsWith_5 rfl ?_
    refine g_get f_Di_32 (by assumption) rfl d_Di_packetsWith_6 ?_
    refine g_icmpN_ge (tgt := 41) d_Di_packetsWith_9 (by decide) (by omega) (by omega) (fun hb_9 => ?_) (fun hb_9 => ?_)
    · omega
    refine g_aload_n d_Di_packetsWith_12 rfl ?_
    refine g_get f_Di_9 (by assumption) rfl d_Di_packetsWith_13 ?_
    refine g_iload_n d_Di_packetsWith_16 rfl ?_
    refine g_callV s_Di_56 sv_RL_judgeSet (by assumption) rfl (g_of_val (k_RL_judgeSet hR i (by omega))) (by omega) rfl (by omega) (by omega) rfl (Nat.le_of_ble_eq_true rfl) d_Di_packetsWith_17 ?_
    rintro _ _ _ ⟨rfl, rfl, rfl⟩
    refine g_eqi (z := nI (jds rs i)) rfl ?_
    refine g_iload_n d_Di_packetsWith_20 rfl ?_
    refine g_icmpN_ne (tgt := 35) d_Di_packetsWith_21 (by decide) (by omega) (by omega) (fun hb_21 => ?_) (fun hb_21 => ?_)
    · rw [if_neg hb_21] at ih
      refine g_iinc1 d_Di_packetsWith_35 rfl (by decide) ?_
      refine g_goto (tgt := 4) d_Di_packetsWith_38 (by decide) ?_
      exact ih
    · rw [if_pos hb_21] at ih
      refine g_iload_n d_Di_packetsWith_24 rfl ?_
      refine g_aload_n d_Di_packetsWith_25 rfl ?_
      refine g_get f_Di_26 (by assumption) rfl d_Di_packetsWith_26 ?_
      refine g_iconst (v := nI 4) d_Di_packetsWith_29 (by decide) ?_
      refine g_aald 4 (by assumption) rfl rfl rfl (by omega) (by decide) (h5 4 (by omega)) d_Di_packetsWith_30 ?_
      refine g_iload_n d_Di_packetsWith_31 rfl ?_
      refine g_iald _ (by assumption) rfl (by omega) (by decide) d_Di_packetsWith_32 ?_
      refine g_iadd d_Di_packetsWith_33 ?_
      refine g_eqi (nI_add _ _) ?_
      refine g_istore_n d_Di_packetsWith_34 (by decide) ?_
      refine g_iinc1 d_Di_packetsWith_35 rfl (by decide) ?_
      refine g_goto (tgt := 4) d_Di_packetsWith_38 (by decide) ?_
      exact ih
theorem k_Di_packetsOf (h : o_dB E M D q S) (hS : S ≤ 256) (hS1 : 1 ≤ S) (hW : o_dW E M (D + 15) wy) (v : Nat) (hv : v < 2 ^ 31) : Ctr l E y_Di_packetsOf 2 [.ref D, .int (nI v)] N M 0 0 (g_val (some (.int (nI (sm (fun s => if s ≠ 0 ∧ lb s = v then wy 4 s else 0) S)))) N M) := by
  have h0 := h
  obtain ⟨h1, h2, ⟨fb, h4, h5⟩, h6⟩ := h
  have hw := hW 4 (by omega)
  refine ctr_of [some (.ref D), some (.int (nI v)), none, none] (by decide) w_850 rfl rfl (Nat.le_of_ble_eq_true rfl) (fun Γ => ?_)
  refine g_iconst (v := nI 0) d_Di_packetsOf_0 (by decide) ?_
  refine g_istore_n d_Di_packetsOf_1 (by decide) ?_
  refine g_iconst (v := nI 1) d_Di_packetsOf_2 (by decide) ?_
  refine g_istore_n d_Di_packetsOf_3 (by decide) ?_
  refine g_for (P := fun i => 1 ≤ i → G _ _ _ _ _ _ _ _ _ _ _ _ 4 [some (.ref D), some (.int (nI v)), some (.int (nI (sm (fun s => if s ≠ 0 ∧ lb s = v then wy 4 s else 0) i))), some (.int (nI i))] [] N M 0 0) (e := S) ?_ ?_ 1 hS1 (by omega)
  · intro _
    refine g_iload_n d_Di_packetsOf_4 rfl ?_
    refine g_aload_n d_Di_packetsOf_5 rfl ?_
    refine g_get f_Di_32 (by assumption) rfl d_Di_packetsOf_6 ?_
    refine g_icmpN_ge (tgt := 37) d_Di_packetsOf_9 (by decide) (by omega) (by omega) (fun hb_9 => ?_) (fun hb_9 => ?_)
    · refine g_iload_n d_Di_packetsOf_37 rfl ?_
      exact g_ireturn rfl (by first | rfl | exact bI_nar _) (by omega) (by omega) d_Di_packetsOf_38 ⟨rfl, rfl, rfl⟩
    · omega
  · intro i hi ih h1i
    have ih := ih (by omega)
    rw [show sm (fun s => if s ≠ 0 ∧ lb s = v then wy 4 s else 0) (i + 1) = sm (fun s => if s ≠ 0 ∧ lb s = v then wy 4 s else 0) i + (if i ≠ 0 ∧ lb i = v then wy 4 i else 0) from rfl] at ih
    have hlb := lb_lt i (by omega) (by omega)
    refine g_iload_n d_Di_packetsOf_4 rfl ?_
    refine g_aload_n d_Di_packetsOf_5 rfl ?_
    refine g_get f_Di_32 (by assumption) rfl d_Di_packetsOf_6 ?_
    refine g_icmpN_ge (tgt := 37) d_Di_packetsOf_9 (by decide) (by omega) (by omega) (fun hb_9 => ?_) (fun hb_9 => ?_)
    · omega
    refine g_iload_n d_Di_packetsOf_12 rfl ?_
    refine g_callSN sn_Di_60 sv_RD_leastIn (g_of_val (k_RD_leastIn i (by omega) (by omega))) (by omega) rfl (by omega) (by omega) rfl (Nat.le_of_ble_eq_true rfl) d_Di_packetsOf_13 ?_
    rintro _ _ _ ⟨rfl, rfl, rfl⟩
    refine g_iload_n d_Di_packetsOf_16 rfl ?_
    refine g_icmpN_ne (tgt := 31) d_Di_packetsOf_17 (by decide) (by omega) (by omega) (fun hb_17 => ?_) (fun hb_17 => ?_)
    · rw [if_neg (fun q => hb_17 q.2)] at ih
      refine g_iinc1 d_Di_packetsOf_31 rfl (by decide) ?_
      refine g_goto (tgt := 4) d_Di_packetsOf_34 (by decide) ?_
      exact ih
    · rw [if_pos ⟨by omega, hb_17⟩] at ih
      refine g_iload_n d_Di_packetsOf_20 rfl ?_
      refine g_aload_n d_Di_packetsOf_21 rfl ?_
      refine g_get f_Di_26 (by assumption) rfl d_Di_packetsOf_22 ?_
      refine g_iconst (v := nI 4) d_Di_packetsOf_25 (by decide) ?_
      refine g_aald 4 (by assumption) rfl rfl rfl (by omega) (by decide) (h5 4 (by omega)) d_Di_packetsOf_26 ?_
      refine g_iload_n d_Di_packetsOf_27 rfl ?_
      refine g_iald _ (by assumption) rfl (by omega) (by decide) d_Di_packetsOf_28 ?_
      refine g_iadd d_Di_packetsOf_29 ?_
      refine g_eqi (nI_add _ _) ?_
      refine g_istore_n d_Di_packetsOf_30 (by decide) ?_
      refine g_iinc1 d_Di_packetsOf_31 rfl (by decide) ?_
      refine g_goto (tgt := 4) d_Di_packetsOf_34 (by decide) ?_
      exact ih
end DIAG

