/-! the model's object at W -/
abbrev mo (W : Nat) (th sz lk rc pl fa : Int32) : List Value := [.int th, .ref (W + 1), .int sz, .ref (W + 2), .ref (W + 3), .ref (W + 4), .ref (W + 5), .ref (W + 6), .int lk, .ref (W + 7), .ref (W + 8), .ref (W + 9), .ref (W + 10), .ref (W + 11), .ref (W + 12), .int rc, .int pl, .int fa]
def o_mt (E : gE) (M : gM) (W n : Nat) (ts : Nat → Nat) : Prop := n ≤ 240 ∧ (∀ j, j < n → 0 < ts j ∧ ts j < 128) ∧ ∃ ft, M (W + 1) = some (g_ia E 240 ft) ∧ ∀ j, j < n → ft j = nI (ts j)
def o_ml (E : gE) (M : gM) (W : Nat) (mm : Nat → Nat) (rr : Nat → Nat → Rl) : Prop := (∀ j, j < 2 → mm j ≤ 8 ∧ ∀ i, i < mm j → r_ok (rr j i)) ∧ (∃ fv, M (W + 2) = some (g_ia E 16 fv) ∧ ∀ j i, j < 2 → i < mm j → fv (8 * j + i) = nI (rr j i).1) ∧ (∃ fl, M (W + 3) = some (g_ia E 64 fl) ∧ ∀ j i f, j < 2 → i < mm j → f < 4 → fl (4 * (8 * j + i) + f) = nI ((rr j i).2.1 f)) ∧ (∃ fh, M (W + 4) = some (g_ia E 64 fh) ∧ ∀ j i f, j < 2 → i < mm j → f < 4 → fh (4 * (8 * j + i) + f) = nI ((rr j i).2.2 f)) ∧ ∃ fc, M (W + 5) = some (g_ia E 2 fc) ∧ ∀ j, j < 2 → fc j = nI (mm j)
def o_mk (E : gE) (M : gM) (W gn : Nat) (gs : Nat → Nat) : Prop := gn ≤ 4 ∧ (∀ k, k < gn → gs k < 268435456) ∧ ∃ fk, M (W + 6) = some (g_ia E 16 fk) ∧ ∀ k f, k < gn → f < 4 → fk (4 * k + f) = nI (pv (gs k) f)
def o_cu (E : gE) (M : gM) (W : Nat) (cn : Nat → Nat) (cs : Nat → Nat → Nat) : Prop := (∃ fm, M (W + 8) = some (g_ia E 4 fm) ∧ ∀ f, f < 4 → fm f = nI (cn f) ∧ cn f ≤ 40) ∧ ∃ fc, M (W + 7) = some (g_ia E 160 fc) ∧ ∀ f k, f < 4 → k < cn f → fc (40 * f + k) = nI (cs f k) ∧ cs f k < 1024
theorem o_cu.kept {E : gE} {M M' : gM} {W : Nat} {cn : Nat → Nat} {cs : Nat → Nat → Nat} (h : o_cu E M W cn cs) (hk : ∀ x, x = W + 7 ∨ x = W + 8 → M' x = M x) : o_cu E M' W cn cs := by
  obtain ⟨⟨a, a1, a2⟩, b, b1, b2⟩ := h
  exact ⟨⟨a, (hk _ (by omega)).trans a1, a2⟩, b, (hk _ (by omega)).trans b1, b2⟩
def o_ms (E : gE) (M : gM) (W : Nat) : Prop := (∃ cn cs, o_cu E M W cn cs) ∧ (∃ f, M (W + 9) = some (g_ia E 19652 f)) ∧ (∃ f, M (W + 10) = some (g_ia E 8 f)) ∧ (∃ f, M (W + 11) = some (g_ia E 32 f)) ∧ ∃ f, M (W + 12) = some (g_ia E 32 f)
def OM (E : gE) (M : gM) (W : Nat) (th : Int32) (tn : Nat) (ts : Nat → Nat) (mm : Nat → Nat) (rr : Nat → Nat → Rl) (gn : Nat) (gs : Nat → Nat) : Prop := (∃ rc pl fa, M W = some (.inr (10, mo W th (nI tn) (nI gn) rc pl fa))) ∧ o_mt E M W tn ts ∧ o_ml E M W mm rr ∧ o_mk E M W gn gs ∧ o_ms E M W
theorem o_mt.kept {E : gE} {M M' : gM} {W n : Nat} {ts : Nat → Nat} (h : o_mt E M W n ts) (hk : M' (W + 1) = M (W + 1)) : o_mt E M' W n ts := by
  obtain ⟨h1, h2, ft, h3, h4⟩ := h
  exact ⟨h1, h2, ft, hk.trans h3, h4⟩
theorem o_ml.kept {E : gE} {M M' : gM} {W : Nat} {mm : Nat → Nat} {rr : Nat → Nat → Rl} (h : o_ml E M W mm rr) (hk : ∀ x, W + 2 ≤ x → x ≤ W + 5 → M' x = M x) : o_ml E M' W mm rr := by
  obtain ⟨h1, ⟨a, a1, a2⟩, ⟨b, b1, b2⟩, ⟨c, c1, c2⟩, d, d1, d2⟩ := h
  exact ⟨h1, ⟨a, (hk _ (by omega) (by omega)).trans a1, a2⟩, ⟨b, (hk _ (by omega) (by omega)).trans b1, b2⟩, ⟨c, (hk _ (by omega) (by omega)).trans c1, c2⟩, d, (hk _ (by omega) (by omega)).trans d1, d2⟩
theorem o_mk.kept {E : gE} {M M' : gM} {W gn : Nat} {gs : Nat → Nat} (h : o_mk E M W gn gs) (hk : M' (W + 6) = M (W + 6)) : o_mk E M' W gn gs := by
  obtain ⟨h1, h2, ft, h3, h4⟩ := h
  exact ⟨h1, h2, ft, hk.trans h3, h4⟩
theorem o_ms.kept {E : gE} {M M' : gM} {W : Nat} (h : o_ms E M W) (hk : ∀ x, W + 7 ≤ x → x ≤ W + 12 → M' x = M x) : o_ms E M' W := by
  obtain ⟨⟨a, b, h1⟩, ⟨c, h3⟩, ⟨d, h4⟩, ⟨e, h5⟩, f, h6⟩ := h
  exact ⟨⟨a, b, h1.kept (fun x _ => hk x (by omega) (by omega))⟩, ⟨c, (hk _ (by omega) (by omega)).trans h3⟩, ⟨d, (hk _ (by omega) (by omega)).trans h4⟩, ⟨e, (hk _ (by omega) (by omega)).trans h5⟩, f, (hk _ (by omega) (by omega)).trans h6⟩
def tcd (a b : Bool) : Int32 := if a = true then nI 1 else if b = true then nI 2 else nI 0
section MODEL
variable {l : Launch} {E : gE} {N : Nat} {M : gM} {W tn : Nat} {th sz lk rc pl fa : Int32} {ts : Nat → Nat} {mm : Nat → Nat} {rr : Nat → Nat → Rl} {gn : Nat} {gs : Nat → Nat}
theorem OM.kept {M' : gM} (h : OM E M W th tn ts mm rr gn gs) (hk : ∀ x, W ≤ x → x ≤ W + 12 → M' x = M x) : OM E M' W th tn ts mm rr gn gs := by
  obtain ⟨⟨a, b, c, h1⟩, h2, h3, h4, h5⟩ := h
  exact ⟨⟨a, b, c, (hk _ (by omega) (by omega)).trans h1⟩, h2.kept (hk _ (by omega) (by omega)), h3.kept (fun x _ _ => hk x (by omega) (by omega)), h4.kept (hk _ (by omega) (by omega)), h5.kept (fun x _ _ => hk x (by omega) (by omega))⟩
/-- only the object's own cell changes -/
theorem OM.own {M' : gM} {th' rc' pl' fa' : Int32} (h : OM E M W th tn ts mm rr gn gs) (e : M' W = some (.inr (10, mo W th' (nI tn) (nI gn) rc' pl' fa'))) (hk : ∀ x, x ≠ W → M' x = M x) : OM E M' W th' tn ts mm rr gn gs := by
  obtain ⟨-, h2, h3, h4, h5⟩ := h
  exact ⟨⟨rc', pl', fa', e⟩, h2.kept (hk _ (by omega)), h3.kept (fun x _ _ => hk x (by omega)), h4.kept (hk _ (by omega)), h5.kept (fun x _ _ => hk x (by omega))⟩
theorem k_Mo_thrown (h : M W = some (.inr (10, mo W th sz lk rc pl fa))) : Ctr l E y_Mo_thrown 0 [.ref W] N M 0 0 (g_val (some (.int th)) N M) := by
  refine ctr_of [some (.ref W)] (by decide) w_964 rfl rfl (Nat.le_of_ble_eq_true rfl) (fun Γ => ?_)
  refine g_aload_n d_Mo_thrown_0 rfl ?_
  refine g_get f_Mo_46 (by assumption) rfl d_Mo_thrown_1 ?_
  exact g_ireturn rfl (by first | rfl | exact bI_nar _) (by omega) (by omega) d_Mo_thrown_4 ⟨rfl, rfl, rfl⟩
theorem k_Mo_refuse (h : M W = some (.inr (10, mo W th sz lk rc pl fa))) (a b : Bool) : Ctr l E y_Mo_refuse 0 [.ref W, .int (bI a), .int (bI b)] N M 0 0 (g_ret (fun v N' M' => v = some (.int (bI (a || b))) ∧ N' = N ∧ M' W = some (.inr (10, mo W (tcd a b) sz lk rc pl fa)) ∧ ∀ x, x ≠ W → M' x = M x)) := by
  cases a with
  | true =>
    refine ctr_of [some (.ref W), some (.int (bI true)), some (.int (bI b))] (by decide) w_972 rfl rfl (Nat.le_of_ble_eq_true rfl) (fun Γ => ?_)
    refine g_aload_n d_Mo_refuse_0 rfl ?_
    refine g_iload_n d_Mo_refuse_1 rfl ?_
    first | refine g_ifB_eq (tgt := 9) d_Mo_refuse_2 (by decide) (fun hb_2 => ?_) (fun hb_2 => ?_) | refine g_ifN_eq (tgt := 9) d_Mo_refuse_2 (by decide) (by omega) (fun hb_2 => ?_) (fun hb_2 => ?_)
    · cases hb_2
    · refine g_iconst (v := nI 1) d_Mo_refuse_5 (by decide) ?_
      refine g_goto (tgt := 18) d_Mo_refuse_6 (by decide) ?_
      refine g_put p_Mo_46 (by assumption) (Nat.le_of_ble_eq_true rfl) rfl rfl d_Mo_refuse_18 ?_
      refine g_nm (fun M1 e1 f1 => ?_)
      refine g_aload_n d_Mo_refuse_21 rfl ?_
      refine g_get f_Mo_46 (by assumption) rfl d_Mo_refuse_22 ?_
      refine g_ifN_le (tgt := 32) d_Mo_refuse_25 (by decide) (by omega) (fun hb_25 => ?_) (fun hb_25 => ?_)
      · omega
      · refine g_iconst (v := nI 1) d_Mo_refuse_28 (by decide) ?_
        refine g_goto (tgt := 33) d_Mo_refuse_29 (by decide) ?_
        exact g_ireturn rfl rfl (by omega) (by omega) d_Mo_refuse_33 ⟨_, rfl, rfl, rfl, e1, f1⟩
  | false =>
    cases b with
    | true =>
      refine ctr_of [some (.ref W), some (.int (bI false)), some (.int (bI true))] (by decide) w_972 rfl rfl (Nat.le_of_ble_eq_true rfl) (fun Γ => ?_)
      refine g_aload_n d_Mo_refuse_0 rfl ?_
      refine g_iload_n d_Mo_refuse_1 rfl ?_
      first | refine g_ifB_eq (tgt := 9) d_Mo_refuse_2 (by decide) (fun hb_2 => ?_) (fun hb_2 => ?_) | refine g_ifN_eq (tgt := 9) d_Mo_refuse_2 (by decide) (by omega) (fun hb_2 => ?_) (fun hb_2 => ?_)
      · refine g_iload_n d_Mo_refuse_9 rfl ?_
        first | refine g_ifB_eq (tgt := 17) d_Mo_refuse_10 (by decide) (fun hb_10 => ?_) (fun hb_10 => ?_) | refine g_ifN_eq (tgt := 17) d_Mo_refuse_10 (by decide) (by omega) (fun hb_10 => ?_) (fun hb_10 => ?_)
        · cases hb_10
        · refine g_iconst (v := nI 2) d_Mo_refuse_13 (by decide) ?_
          refine g_goto (tgt := 18) d_Mo_refuse_14 (by decide) ?_
          refine g_put p_Mo_46 (by assumption) (Nat.le_of_ble_eq_true rfl) rfl rfl d_Mo_refuse_18 ?_
          refine g_nm (fun M1 e1 f1 => ?_)
          refine g_aload_n d_Mo_refuse_21 rfl ?_
          refine g_get f_Mo_46 (by assumption) rfl d_Mo_refuse_22 ?_
          refine g_ifN_le (tgt := 32) d_Mo_refuse_25 (by decide) (by omega) (fun hb_25 => ?_) (fun hb_25 => ?_)
          · omega
          · refine g_iconst (v := nI 1) d_Mo_refuse_28 (by decide) ?_
            refine g_goto (tgt := 33) d_Mo_refuse_29 (by decide) ?_
            exact g_ireturn rfl rfl (by omega) (by omega) d_Mo_refuse_33 ⟨_, rfl, rfl, rfl, e1, f1⟩
      · cases hb_2
    | false =>
      refine ctr_of [some (.ref W), some (.int (bI false)), some (.int (bI false))] (by decide) w_972 rfl rfl (Nat.le_of_ble_eq_true rfl) (fun Γ => ?_)
      refine g_aload_n d_Mo_refuse_0 rfl ?_
      refine g_iload_n d_Mo_refuse_1 rfl ?_
      first | refine g_ifB_eq (tgt := 9) d_Mo_refuse_2 (by decide) (fun hb_2 => ?_) (fun hb_2 => ?_) | refine g_ifN_eq (tgt := 9) d_Mo_refuse_2 (by decide) (by omega) (fun hb_2 => ?_) (fun hb_2 => ?_)
      · refine g_iload_n d_Mo_refuse_9 rfl ?_
        first | refine g_ifB_eq (tgt := 17) d_Mo_refuse_10 (by decide) (fun hb_10 => ?_) (fun hb_10 => ?_) | refine g_ifN_eq (tgt := 17) d_Mo_refuse_10 (by decide) (by omega) (fun hb_10 => ?_) (fun hb_10 => ?_)
        · refine g_iconst (v := nI 0) d_Mo_refuse_17 (by decide) ?_
          refine g_put p_Mo_46 (by assumption) (Nat.le_of_ble_eq_true rfl) rfl rfl d_Mo_refuse_18 ?_
          refine g_nm (fun M1 e1 f1 => ?_)
          refine g_aload_n d_Mo_refuse_21 rfl ?_
          refine g_get f_Mo_46 (by assumption) rfl d_Mo_refuse_22 ?_
          refine g_ifN_le (tgt := 32) d_Mo_refuse_25 (by decide) (by omega) (fun hb_25 => ?_) (fun hb_25 => ?_)
          · refine g_iconst (v := nI 0) d_Mo_refuse_32 (by decide) ?_
            exact g_ireturn rfl rfl (by omega) (by omega) d_Mo_refuse_33 ⟨_, rfl, rfl, rfl, e1, f1⟩
          · omega
        · cases hb_10
      · cases hb_2
end MODEL

