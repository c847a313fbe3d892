/-! the whole object at B -/
def o_S (E : gE) (M : gM) (B : Nat) : Prop := M B = some (.inr (0, [.ref (B + 1), .ref (B + 3), .ref (B + 30), .ref (B + 31), .ref (B + 136), .ref (B + 150)])) ∧ (∃ fa, M (B + 30) = some (g_qa E 4 2 fa) ∧ ∀ j, j < 2 → fa j = some (B + 32 + 52 * j)) ∧ ∃ fa, M (B + 31) = some (g_qa E 5 2 fa) ∧ ∀ j, j < 2 → fa j = some (B + 58 + 52 * j)
def o_R (E : gE) (M : gM) (B : Nat) : Prop := (∃ told, M (B + 3) = some (.inr (3, [.ref (B + 3 + 1), .ref (B + 3 + 2), .int (nI told)]))) ∧ (∃ y1 y2 y3, M (B + 3 + 1) = some (.inr (2, [.ref (B + 1), .int y1, .int y2, .int y3]))) ∧ ∃ z, o_rf E M (B + 3) z
def o_D (E : gE) (M : gM) (D q : Nat) : Prop := (∃ S, o_dB E M D q S) ∧ (∃ cn cs ct, o_dC E M D cn cs ct) ∧ (∃ wy, o_dW E M (D + 15) wy) ∧ ∃ lk, o_dW E M (D + 21) lk ∧ ∀ j x, j < 5 → x < 256 → lk j x < 256
def o_X (E : gE) (M : gM) (C q1 q2 : Nat) : Prop := o_co E M C q1 q2 ∧ ∃ cn cs ct, o_cC E M C cn cs ct
theorem o_S.kept {E : gE} {M M' : gM} {B : Nat} (h : o_S E M B) (hk : ∀ x, x = B ∨ x = B + 30 ∨ x = B + 31 → M' x = M x) : o_S E M' B := by
  obtain ⟨h1, ⟨fa, h2, h3⟩, fb, h4, h5⟩ := h
  exact ⟨(hk _ (by omega)).trans h1, ⟨fa, (hk _ (by omega)).trans h2, h3⟩, fb, (hk _ (by omega)).trans h4, h5⟩
theorem o_R.kept {E : gE} {M M' : gM} {B : Nat} (h : o_R E M B) (hk : ∀ x, B + 3 ≤ x → x ≤ B + 29 → M' x = M x) : o_R E M' B := by
  obtain ⟨⟨t, h1⟩, ⟨y1, y2, y3, h2⟩, z, h3⟩ := h
  exact ⟨⟨t, (hk _ (by omega) (by omega)).trans h1⟩, ⟨y1, y2, y3, (hk _ (by omega) (by omega)).trans h2⟩, z, h3.kept (fun x _ _ => hk x (by omega) (by omega))⟩
theorem o_D.kept {E : gE} {M M' : gM} {D q : Nat} (h : o_D E M D q) (hk : ∀ x, D ≤ x → x ≤ D + 25 → M' x = M x) : o_D E M' D q := by
  obtain ⟨⟨S, h1⟩, ⟨cn, cs, ct, h2⟩, ⟨wy, h3⟩, lk, h4, h5⟩ := h
  exact ⟨⟨S, h1.kept (fun x _ => hk x (by omega) (by omega))⟩, ⟨cn, cs, ct, h2.kept (fun x _ _ => hk x (by omega) (by omega))⟩, ⟨wy, h3.kept (fun x _ _ => hk x (by omega) (by omega))⟩, lk, h4.kept (fun x _ _ => hk x (by omega) (by omega)), h5⟩
theorem o_X.kept {E : gE} {M M' : gM} {C q1 q2 : Nat} (h : o_X E M C q1 q2) (hk : ∀ x, C ≤ x → x ≤ C + 13 → M' x = M x) : o_X E M' C q1 q2 := by
  obtain ⟨h1, cn, cs, ct, h2⟩ := h
  exact ⟨h1.kept (fun x _ => hk x (by omega) (by omega)), cn, cs, ct, h2.kept (fun x _ _ => hk x (by omega) (by omega))⟩
/-- text tn ts, lists mm rr, connections gn gs -/
def OA (E : gE) (M : gM) (B tn : Nat) (ts : Nat → Nat) (mm : Nat → Nat) (rr : Nat → Nat → Rl) (gn : Nat) (gs : Nat → Nat) : Prop :=
  o_S E M B ∧ o_text E M (B + 1) tn ts ∧ o_R E M B ∧ (∀ j, j < 2 → o_list E M (B + 32 + 52 * j) (mm j) (rr j)) ∧ (∀ j, j < 2 → o_D E M (B + 58 + 52 * j) (B + 32 + 52 * j)) ∧ o_X E M (B + 136) (B + 32 + 52 * 0) (B + 32 + 52 * 1) ∧ o_gate E M (B + 150) gn gs
section WHOLE
variable {l : Launch} {E : gE} {N : Nat} {M : gM} {B tn : Nat} {ts : Nat → Nat} {mm : Nat → Nat} {rr : Nat → Nat → Rl} {gn : Nat} {gs : Nat → Nat}
theorem OA.kept {M' : gM} (h : OA E M B tn ts mm rr gn gs) (hk : ∀ x, B ≤ x → x ≤ B + 151 → M' x = M x) : OA E M' B tn ts mm rr gn gs := by
  obtain ⟨h1, h2, h3, h4, h5, h6, h7⟩ := h
  exact ⟨h1.kept (fun x _ => hk x (by omega) (by omega)), h2.kept (fun x _ _ => hk x (by omega) (by omega)), h3.kept (fun x _ _ => hk x (by omega) (by omega)), fun j hj => (h4 j hj).kept (fun x _ _ => hk x (by omega) (by omega)), fun j hj => (h5 j hj).kept (fun x _ _ => hk x (by omega) (by omega)), h6.kept (fun x _ _ => hk x (by omega) (by omega)), h7.kept (fun x _ _ => hk x (by omega) (by omega))⟩
/-- one list changes -/
theorem OA.list {M' : gM} {j m' : Nat} {r' : Nat → Rl} (h : OA E M B tn ts mm rr gn gs) (hj : j < 2) (hl : o_list E M' (B + 32 + 52 * j) m' r') (hk : ∀ x, (x < B + 32 + 52 * j ∨ B + 32 + 52 * j + 25 < x) → M' x = M x) : OA E M' B tn ts (va_up mm j m') (va_up rr j r') gn gs := by
  obtain ⟨h1, h2, h3, h4, h5, h6, h7⟩ := h
  refine ⟨h1.kept (fun x _ => hk x (by omega)), h2.kept (fun x _ _ => hk x (by omega)), h3.kept (fun x _ _ => hk x (by omega)), fun i hi => ?_, fun i hi => (h5 i hi).kept (fun x _ _ => hk x (by omega)), h6.kept (fun x _ _ => hk x (by omega)), h7.kept (fun x _ _ => hk x (by omega))⟩
  by_cases e : i = j
  · subst e
    rw [va_up_self, va_up_self]
    exact hl
  · rw [va_up_ne _ _ e, va_up_ne _ _ e]
    exact (h4 i hi).kept (fun x _ _ => hk x (by omega))
/-- one diagram changes -/
theorem OA.diag {M' : gM} {j : Nat} (h : OA E M B tn ts mm rr gn gs) (hj : j < 2) (hl : o_D E M' (B + 58 + 52 * j) (B + 32 + 52 * j)) (hk : ∀ x, (x < B + 58 + 52 * j ∨ B + 58 + 52 * j + 25 < x) → M' x = M x) : OA E M' B tn ts mm rr gn gs := by
  obtain ⟨h1, h2, h3, h4, h5, h6, h7⟩ := h
  refine ⟨h1.kept (fun x _ => hk x (by omega)), h2.kept (fun x _ _ => hk x (by omega)), h3.kept (fun x _ _ => hk x (by omega)), fun i hi => (h4 i hi).kept (fun x _ _ => hk x (by omega)), fun i hi => ?_, h6.kept (fun x _ _ => hk x (by omega)), h7.kept (fun x _ _ => hk x (by omega))⟩
  by_cases e : i = j
  · subst e
    exact hl
  · exact (h5 i hi).kept (fun x _ _ => hk x (by omega))
theorem OA.comp {M' : gM} (h : OA E M B tn ts mm rr gn gs) (hl : o_X E M' (B + 136) (B + 32 + 52 * 0) (B + 32 + 52 * 1)) (hk : ∀ x, (x < B + 136 ∨ B + 149 < x) → M' x = M x) : OA E M' B tn ts mm rr gn gs := by
  obtain ⟨h1, h2, h3, h4, h5, h6, h7⟩ := h
  exact ⟨h1.kept (fun x _ => hk x (by omega)), h2.kept (fun x _ _ => hk x (by omega)), h3.kept (fun x _ _ => hk x (by omega)), fun i hi => (h4 i hi).kept (fun x _ _ => hk x (by omega)), fun i hi => (h5 i hi).kept (fun x _ _ => hk x (by omega)), hl, h7.kept (fun x _ _ => hk x (by omega))⟩
theorem OA.gate {M' : gM} {gn' : Nat} {gs' : Nat → Nat} (h : OA E M B tn ts mm rr gn gs) (hl : o_gate E M' (B + 150) gn' gs') (hk : ∀ x, x ≠ B + 150 → x ≠ B + 150 + 1 → M' x = M x) : OA E M' B tn ts mm rr gn' gs' := by
  obtain ⟨h1, h2, h3, h4, h5, h6, h7⟩ := h
  exact ⟨h1.kept (fun x _ => hk x (by omega) (by omega)), h2.kept (fun x _ _ => hk x (by omega) (by omega)), h3.kept (fun x _ _ => hk x (by omega) (by omega)), fun i hi => (h4 i hi).kept (fun x _ _ => hk x (by omega) (by omega)), fun i hi => (h5 i hi).kept (fun x _ _ => hk x (by omega) (by omega)), h6.kept (fun x _ _ => hk x (by omega) (by omega)), hl⟩
theorem OA.text {M' : gM} {tn' : Nat} {ts' : Nat → Nat} (h : OA E M B tn ts mm rr gn gs) (hl : o_text E M' (B + 1) tn' ts') (hk : ∀ x, x ≠ B + 1 → x ≠ B + 1 + 1 → M' x = M x) : OA E M' B tn' ts' mm rr gn gs := by
  obtain ⟨h1, h2, h3, h4, h5, h6, h7⟩ := h
  exact ⟨h1.kept (fun x _ => hk x (by omega) (by omega)), hl, h3.kept (fun x _ _ => hk x (by omega) (by omega)), fun i hi => (h4 i hi).kept (fun x _ _ => hk x (by omega) (by omega)), fun i hi => (h5 i hi).kept (fun x _ _ => hk x (by omega) (by omega)), h6.kept (fun x _ _ => hk x (by omega) (by omega)), h7.kept (fun x _ _ => hk x (by omega) (by omega))⟩
theorem OA.reader {M' : gM} (h : OA E M B tn ts mm rr gn gs) (hl : o_R E M' B) (hk : ∀ x, (x < B + 3 ∨ B + 3 + 26 < x) → M' x = M x) : OA E M' B tn ts mm rr gn gs := by
  obtain ⟨h1, h2, h3, h4, h5, h6, h7⟩ := h
  exact ⟨h1.kept (fun x _ => hk x (by omega)), h2.kept (fun x _ _ => hk x (by omega)), hl, fun i hi => (h4 i hi).kept (fun x _ _ => hk x (by omega)), fun i hi => (h5 i hi).kept (fun x _ _ => hk x (by omega)), h6.kept (fun x _ _ => hk x (by omega)), h7.kept (fun x _ _ => hk x (by omega))⟩
theorem k_RD_requireRule (h : OA E M B tn ts mm rr gn gs) (j i : Nat) (hj : j < 2) (hi : i < mm j) : Ctr l E y_RD_requireRule 7 [.ref B, .int (nI j), .int (nI i)] N M 0 0 (g_val none N M) := by
  obtain ⟨⟨h1, ⟨fa, h2, h3⟩, h4⟩, -, -, h5, -⟩ := h
  have hl := h5 j hj
  have hla := hl.1
  have hm := hl.2.1
  refine ctr_of [some (.ref B), some (.int (nI j)), some (.int (nI i))] (by decide) w_645 rfl rfl (Nat.le_of_ble_eq_true rfl) (fun Γ => ?_)
  refine g_aload_n d_RD_requireRule_0 rfl ?_
  refine g_iload_n d_RD_requireRule_1 rfl ?_
  refine g_callV s_RD_84 sv_RD_requireList (by assumption) rfl (g_of_val (k_RD_requireList j hj)) (by omega) rfl (by omega) (by omega) rfl (Nat.le_of_ble_eq_true rfl) d_RD_requireRule_2 ?_
  rintro _ _ _ ⟨rfl, rfl, rfl⟩
  refine g_aload_n d_RD_requireRule_5 rfl ?_
  refine g_get f_RD_27 (by assumption) rfl d_RD_requireRule_6 ?_
  refine g_iload_n d_RD_requireRule_9 rfl ?_
  refine g_aald j (by assumption) rfl rfl rfl hj (by decide) (h3 j hj) d_RD_requireRule_10 ?_
  refine g_iload_n d_RD_requireRule_11 rfl ?_
  refine g_callV s_RD_190 sv_RL_has (by assumption) rfl (g_of_val (k_RL_hasN hl i (by omega))) (by omega) rfl (by omega) (by omega) rfl (Nat.le_of_ble_eq_true rfl) d_RD_requireRule_12 ?_
  rintro _ _ _ ⟨rfl, rfl, rfl⟩
  first | refine g_ifB_ne (tgt := 28) d_RD_requireRule_15 (by decide) (fun hb_15 => ?_) (fun hb_15 => ?_) | refine g_ifN_ne (tgt := 28) d_RD_requireRule_15 (by decide) (by omega) (fun hb_15 => ?_) (fun hb_15 => ?_)
  · exact g_return rfl (by omega) (by omega) d_RD_requireRule_28 ⟨rfl, rfl, rfl⟩
  · exact absurd hi (of_decide_eq_false hb_15)
theorem x_RD_requireRule (h : OA E M B tn ts mm rr gn gs) (j : Nat) (hj : j < 2) (x : Int32) (hx : noN x (mm j)) : Ctr l E y_RD_requireRule 7 [.ref B, .int (nI j), .int x] N M 1 6 (t_thr 11 N M) := by
  obtain ⟨⟨h1, ⟨fa, h2, h3⟩, h4⟩, -, -, h5, -⟩ := h
  have hl := h5 j hj
  have hla := hl.1
  rcases hx with hx | ⟨i, rfl, i1, i2⟩
  · refine ctr_of [some (.ref B), some (.int (nI j)), some (.int x)] (by decide) w_645 rfl rfl (Nat.le_of_ble_eq_true rfl) (fun Γ => ?_)
    refine g_aload_n d_RD_requireRule_0 rfl ?_
    refine g_iload_n d_RD_requireRule_1 rfl ?_
    refine g_callV s_RD_84 sv_RD_requireList (by assumption) rfl (g_of_val (k_RD_requireList j hj)) (by omega) rfl (by omega) (by omega) rfl (Nat.le_of_ble_eq_true rfl) d_RD_requireRule_2 ?_
    rintro _ _ _ ⟨rfl, rfl, rfl⟩
    refine g_aload_n d_RD_requireRule_5 rfl ?_
    refine g_get f_RD_27 (by assumption) rfl d_RD_requireRule_6 ?_
    refine g_iload_n d_RD_requireRule_9 rfl ?_
    refine g_aald j (by assumption) rfl rfl rfl hj (by decide) (h3 j hj) d_RD_requireRule_10 ?_
    refine g_iload_n d_RD_requireRule_11 rfl ?_
    refine g_callV s_RD_190 sv_RL_has (by assumption) rfl (g_of_val (k_RL_hasM hl x hx)) (by omega) rfl (by omega) (by omega) rfl (Nat.le_of_ble_eq_true rfl) d_RD_requireRule_12 ?_
    rintro _ _ _ ⟨rfl, rfl, rfl⟩
    first | refine g_ifB_ne (tgt := 28) d_RD_requireRule_15 (by decide) (fun hb_15 => ?_) (fun hb_15 => ?_) | refine g_ifN_ne (tgt := 28) d_RD_requireRule_15 (by decide) (by omega) (fun hb_15 => ?_) (fun hb_15 => ?_)
    · cases hb_15
    · exact g_throw (i := 11) xa_Iae rfl rfl (by decide) w_328 w_329 w_15 rfl (by decide) (by omega) (by omega) (Nat.le_of_ble_eq_true rfl) d_RD_requireRule_18 d_RD_requireRule_21 d_RD_requireRule_22 d_RD_requireRule_24 d_RD_requireRule_27 ⟨_, rfl, rfl, rfl, rfl⟩
  · refine ctr_of [some (.ref B), some (.int (nI j)), some (.int (nI i))] (by decide) w_645 rfl rfl (Nat.le_of_ble_eq_true rfl) (fun Γ => ?_)
    refine g_aload_n d_RD_requireRule_0 rfl ?_
    refine g_iload_n d_RD_requireRule_1 rfl ?_
    refine g_callV s_RD_84 sv_RD_requireList (by assumption) rfl (g_of_val (k_RD_requireList j hj)) (by omega) rfl (by omega) (by omega) rfl (Nat.le_of_ble_eq_true rfl) d_RD_requireRule_2 ?_
    rintro _ _ _ ⟨rfl, rfl, rfl⟩
    refine g_aload_n d_RD_requireRule_5 rfl ?_
    refine g_get f_RD_27 (by assumption) rfl d_RD_requireRule_6 ?_
    refine g_iload_n d_RD_requireRule_9 rfl ?_
    refine g_aald j (by assumption) rfl rfl rfl hj (by decide) (h3 j hj) d_RD_requireRule_10 ?_
    refine g_iload_n d_RD_requireRule_11 rfl ?_
    refine g_callV s_RD_190 sv_RL_has (by assumption) rfl (g_of_val (k_RL_hasN hl i i2)) (by omega) rfl (by omega) (by omega) rfl (Nat.le_of_ble_eq_true rfl) d_RD_requireRule_12 ?_
    rintro _ _ _ ⟨rfl, rfl, rfl⟩
    first | refine g_ifB_ne (tgt := 28) d_RD_requireRule_15 (by decide) (fun hb_15 => ?_) (fun hb_15 => ?_) | refine g_ifN_ne (tgt := 28) d_RD_requireRule_15 (by decide) (by omega) (fun hb_15 => ?_) (fun hb_15 => ?_)
    · have := of_decide_eq_true hb_15
      omega
    · exact g_throw (i := 11) xa_Iae rfl rfl (by decide) w_328 w_329 w_15 rfl (by decide) (by omega) (by omega) (Nat.le_of_ble_eq_true rfl) d_RD_requireRule_18 d_RD_requireRule_21 d_RD_requireRule_22 d_RD_requireRule_24 d_RD_requireRule_27 ⟨_, rfl, rfl, rfl, rfl⟩
theorem xl_RD_requireRule (h : OA E M B tn ts mm rr gn gs) (x y : Int32) (hx : noN x 2) : Ctr l E y_RD_requireRule 7 [.ref B, .int x, .int y] N M 1 6 (t_thr 13 N M) := by
  have hB := h.1.1
  refine ctr_of [some (.ref B), some (.int x), some (.int y)] (by decide) w_645 rfl rfl (Nat.le_of_ble_eq_true rfl) (fun Γ => ?_)
  refine g_aload_n d_RD_requireRule_0 rfl ?_
  refine g_iload_n d_RD_requireRule_1 rfl ?_
  exact g_thrV s_RD_84 sv_RD_requireList (by assumption) rfl (x_RD_requireList x hx) (by omega) rfl (by omega) (by omega) rfl (Nat.le_of_ble_eq_true rfl) d_RD_requireRule_2 (fun b _ _ hb => ⟨b, rfl, hb⟩)
end WHOLE

