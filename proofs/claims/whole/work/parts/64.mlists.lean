/-! the model's lists: rows in use -/
def o_mR (E : gE) (M : gM) (W : Nat) (kk : Nat → Nat) (rr : Nat → Nat → Rl) : Prop := (∃ fv, M (W + 2) = some (g_ia E 16 fv) ∧ ∀ j i, j < 2 → i < kk j → fv (8 * j + i) = nI (rr j i).1) ∧ (∃ fl, M (W + 3) = some (g_ia E 64 fl) ∧ ∀ j i f, j < 2 → i < kk j → f < 4 → fl (4 * (8 * j + i) + f) = nI ((rr j i).2.1 f)) ∧ ∃ fh, M (W + 4) = some (g_ia E 64 fh) ∧ ∀ j i f, j < 2 → i < kk j → f < 4 → fh (4 * (8 * j + i) + f) = nI ((rr j i).2.2 f)
def o_mc (E : gE) (M : gM) (W : Nat) (mm : Nat → Nat) : Prop := ∃ fc, M (W + 5) = some (g_ia E 2 fc) ∧ ∀ j, j < 2 → fc j = nI (mm j)
theorem o_ml.of {E : gE} {M : gM} {W : Nat} {kk mm : Nat → Nat} {rr : Nat → Nat → Rl} (h1 : ∀ j, j < 2 → mm j ≤ 8 ∧ ∀ i, i < mm j → r_ok (rr j i)) (h2 : o_mR E M W kk rr) (hk : ∀ j, j < 2 → mm j ≤ kk j) (h3 : o_mc E M W mm) : o_ml E M W mm rr := by
  obtain ⟨⟨a, a1, a2⟩, ⟨b, b1, b2⟩, c, c1, c2⟩ := h2
  exact ⟨h1, ⟨a, a1, fun j i hj hi => a2 j i hj (by have := hk j hj; omega)⟩, ⟨b, b1, fun j i f hj hi hf => b2 j i f hj (by have := hk j hj; omega) hf⟩, ⟨c, c1, fun j i f hj hi hf => c2 j i f hj (by have := hk j hj; omega) hf⟩, h3⟩
theorem o_ml.rows {E : gE} {M : gM} {W : Nat} {mm : Nat → Nat} {rr : Nat → Nat → Rl} (h : o_ml E M W mm rr) : o_mR E M W mm rr := ⟨h.2.1, h.2.2.1, h.2.2.2.1⟩
theorem o_mR.kept {E : gE} {M M' : gM} {W : Nat} {kk : Nat → Nat} {rr : Nat → Nat → Rl} (h : o_mR E M W kk rr) (hk : ∀ x, W + 2 ≤ x → x ≤ W + 4 → M' x = M x) : o_mR E M' W kk rr := by
  obtain ⟨⟨a, a1, a2⟩, ⟨b, b1, b2⟩, c, c1, c2⟩ := h
  exact ⟨⟨a, (hk _ (by omega) (by omega)).trans a1, a2⟩, ⟨b, (hk _ (by omega) (by omega)).trans b1, b2⟩, c, (hk _ (by omega) (by omega)).trans c1, c2⟩
section MLISTS
variable {l : Launch} {E : gE} {N : Nat} {M : gM} {W tn : Nat} {th sz lk rc pl fa : Int32} {ts : Nat → Nat} {mm kk : Nat → Nat} {rr : Nat → Nat → Rl} {gn : Nat} {gs : Nat → Nat}
theorem k_Mo_noRule (h : M W = some (.inr (10, mo W th sz lk rc pl fa))) (hc : o_mc E M W mm) (j : Nat) (hj : j < 2) (y : Int32) : Ctr l E y_Mo_noRule 1 [.ref W, .int (nI j), .int y] N M 0 0 (g_val (some (.int (bI (!inI y (nI 0) (nI (mm j) - nI 1))))) N M) := by
  obtain ⟨fc, c1, c2⟩ := hc
  have hin := inI_yes (j := j) (k := 1) (by omega) (by omega)
  refine ctr_of [some (.ref W), some (.int (nI j)), some (.int y)] (by decide) w_1036 rfl rfl (Nat.le_of_ble_eq_true rfl) (fun Γ => ?_)
  refine g_iload_n d_Mo_noRule_0 rfl ?_
  refine g_iconst (v := nI 0) d_Mo_noRule_1 (by decide) ?_
  refine g_iconst (v := nI 1) d_Mo_noRule_2 (by decide) ?_
  refine g_callS s_Mo_112 sv_Mo_in (g_of_val (k_Mo_in _ _ _)) (by omega) rfl (by omega) (by omega) rfl (Nat.le_of_ble_eq_true rfl) d_Mo_noRule_3 ?_
  rintro _ _ _ ⟨rfl, rfl, rfl⟩
  first | refine g_ifB_eq (tgt := 29) d_Mo_noRule_6 (by decide) (fun hb_6 => ?_) (fun hb_6 => ?_) | refine g_ifN_eq (tgt := 29) d_Mo_noRule_6 (by decide) (by omega) (fun hb_6 => ?_) (fun hb_6 => ?_)
  · rw [hin] at hb_6; cases hb_6
  refine g_iload_n d_Mo_noRule_9 rfl ?_
  refine g_iconst (v := nI 0) d_Mo_noRule_10 (by decide) ?_
  refine g_aload_n d_Mo_noRule_11 rfl ?_
  refine g_get f_Mo_22 (by assumption) rfl d_Mo_noRule_12 ?_
  refine g_iload_n d_Mo_noRule_15 rfl ?_
  refine g_iald _ (by assumption) rfl (by omega) (by decide) d_Mo_noRule_16 ?_
  refine g_eqi (c2 j hj) ?_
  refine g_iconst (v := nI 1) d_Mo_noRule_17 (by decide) ?_
  refine g_isub d_Mo_noRule_18 ?_
  refine g_callS s_Mo_112 sv_Mo_in (g_of_val (k_Mo_in _ _ _)) (by omega) rfl (by omega) (by omega) rfl (Nat.le_of_ble_eq_true rfl) d_Mo_noRule_19 ?_
  rintro _ _ _ ⟨rfl, rfl, rfl⟩
  first | refine g_ifB_ne (tgt := 29) d_Mo_noRule_22 (by decide) (fun hb_22 => ?_) (fun hb_22 => ?_) | refine g_ifN_ne (tgt := 29) d_Mo_noRule_22 (by decide) (by omega) (fun hb_22 => ?_) (fun hb_22 => ?_)
  · refine g_iconst (v := nI 0) d_Mo_noRule_29 (by decide) ?_
    refine g_Fa (b := !inI y (nI 0) (nI (mm j) - nI 1)) (by rw [hb_22]; rfl) ?_
    exact g_ireturn rfl (by first | rfl | exact bI_nar _) (by omega) (by omega) d_Mo_noRule_30 ⟨rfl, rfl, rfl⟩
  · refine g_iconst (v := nI 1) d_Mo_noRule_25 (by decide) ?_
    refine g_goto (tgt := 30) d_Mo_noRule_26 (by decide) ?_
    refine g_Tr (b := !inI y (nI 0) (nI (mm j) - nI 1)) (by rw [hb_22]; rfl) ?_
    exact g_ireturn rfl (by first | rfl | exact bI_nar _) (by omega) (by omega) d_Mo_noRule_30 ⟨rfl, rfl, rfl⟩
theorem kx_Mo_noRule (h : M W = some (.inr (10, mo W th sz lk rc pl fa))) (x y : Int32) (hx : noN x 2) : Ctr l E y_Mo_noRule 1 [.ref W, .int x, .int y] N M 0 0 (g_val (some (.int (bI false))) N M) := by
  have hin := inI_no (k := 1) hx (by omega)
  refine ctr_of [some (.ref W), some (.int x), some (.int y)] (by decide) w_1036 rfl rfl (Nat.le_of_ble_eq_true rfl) (fun Γ => ?_)
  refine g_iload_n d_Mo_noRule_0 rfl ?_
  refine g_iconst (v := nI 0) d_Mo_noRule_1 (by decide) ?_
  refine g_iconst (v := nI 1) d_Mo_noRule_2 (by decide) ?_
  refine g_callS s_Mo_112 sv_Mo_in (g_of_val (k_Mo_in _ _ _)) (by omega) rfl (by omega) (by omega) rfl (Nat.le_of_ble_eq_true rfl) d_Mo_noRule_3 ?_
  rintro _ _ _ ⟨rfl, rfl, rfl⟩
  first | refine g_ifB_eq (tgt := 29) d_Mo_noRule_6 (by decide) (fun hb_6 => ?_) (fun hb_6 => ?_) | refine g_ifN_eq (tgt := 29) d_Mo_noRule_6 (by decide) (by omega) (fun hb_6 => ?_) (fun hb_6 => ?_)
  · refine g_iconst (v := nI 0) d_Mo_noRule_29 (by decide) ?_
    refine g_Fa (b := false) rfl ?_
    exact g_ireturn rfl (by first | rfl | exact bI_nar _) (by omega) (by omega) d_Mo_noRule_30 ⟨rfl, rfl, rfl⟩
  · rw [hin] at hb_6; cases hb_6
theorem k_Mo_move {fv fl fh : Nat → Int32} (h : M W = some (.inr (10, mo W th sz lk rc pl fa))) (h2 : M (W + 2) = some (g_ia E 16 fv)) (h3 : M (W + 3) = some (g_ia E 64 fl)) (h4 : M (W + 4) = some (g_ia E 64 fh)) (j p q : Nat) (hj : j < 2) (hp : p < 8) (hq : q < 8) (hne : p ≠ q) : Ctr l E y_Mo_move 0 [.ref W, .int (nI j), .int (nI p), .int (nI q)] N M 0 0 (g_ret (fun v N' M' => v = none ∧ N' = N ∧ (∃ fl' fh' : Nat → Int32, M' (W + 2) = some (g_ia E 16 (upd fv (8 * j + q) (fv (8 * j + p)))) ∧ M' (W + 3) = some (g_ia E 64 fl') ∧ M' (W + 4) = some (g_ia E 64 fh') ∧ (∀ x, (∀ g, g < 4 → x ≠ 4 * (8 * j + q) + g) → fl' x = fl x ∧ fh' x = fh x) ∧ ∀ g, g < 4 → fl' (4 * (8 * j + q) + g) = fl (4 * (8 * j + p) + g) ∧ fh' (4 * (8 * j + q) + g) = fh (4 * (8 * j + p) + g)) ∧ ∀ x, x ≠ W + 2 → x ≠ W + 3 → x ≠ W + 4 → M' x = M x)) := by
  refine ctr_of [some (.ref W), some (.int (nI j)), some (.int (nI p)), some (.int (nI q)), none, none, none] (by decide) w_1044 rfl rfl (Nat.le_of_ble_eq_true rfl) (fun Γ => ?_)
  refine g_bipush (v := nI 8) d_Mo_move_0 (by decide) ?_
  refine g_iload_n d_Mo_move_2 rfl ?_
  refine g_imul d_Mo_move_3 ?_
  refine g_eqi (pk_mul _ _) ?_
  refine g_iload_n d_Mo_move_4 rfl ?_
  refine g_iadd d_Mo_move_5 ?_
  refine g_eqi (nI_add _ _) ?_
  refine g_istore d_Mo_move_6 (by decide) ?_
  refine g_bipush (v := nI 8) d_Mo_move_8 (by decide) ?_
  refine g_iload_n d_Mo_move_10 rfl ?_
  refine g_imul d_Mo_move_11 ?_
  refine g_eqi (pk_mul _ _) ?_
  refine g_iload_n d_Mo_move_12 rfl ?_
  refine g_iadd d_Mo_move_13 ?_
  refine g_eqi (nI_add _ _) ?_
  refine g_istore d_Mo_move_14 (by decide) ?_
  refine g_aload_n d_Mo_move_16 rfl ?_
  refine g_get f_Mo_13 (by assumption) rfl d_Mo_move_17 ?_
  refine g_iload d_Mo_move_20 rfl ?_
  refine g_aload_n d_Mo_move_22 rfl ?_
  refine g_get f_Mo_13 (by assumption) rfl d_Mo_move_23 ?_
  refine g_iload d_Mo_move_26 rfl ?_
  refine g_iald _ (by assumption) rfl (by omega) (by decide) d_Mo_move_28 ?_
  refine g_iast _ (by assumption) rfl (by omega) (by decide) d_Mo_move_29 ?_
  refine g_nm (fun M1 e1 f1 => ?_)
  refine g_iconst (v := nI 0) d_Mo_move_30 (by decide) ?_
  refine g_istore d_Mo_move_31 (by decide) ?_
  refine g_for (P := fun f => ∀ (M2 : gM) (fl' fh' : Nat → Int32), M2 (W + 3) = some (g_ia E 64 fl') → M2 (W + 4) = some (g_ia E 64 fh') → (∀ x, (∀ g, g < f → x ≠ 4 * (8 * j + q) + g) → fl' x = fl x ∧ fh' x = fh x) → (∀ g, g < f → fl' (4 * (8 * j + q) + g) = fl (4 * (8 * j + p) + g) ∧ fh' (4 * (8 * j + q) + g) = fh (4 * (8 * j + p) + g)) → (∀ x, x ≠ W + 3 → x ≠ W + 4 → M2 x = M1 x) → G _ _ _ _ _ _ _ _ _ _ _ _ 33 [some (.ref W), some (.int (nI j)), some (.int (nI p)), some (.int (nI q)), some (.int (nI (8 * j + p))), some (.int (nI (8 * j + q))), some (.int (nI f))] [] N M2 0 0) (e := 4) ?_ ?_ 0 (by omega) M1 fl fh ((f1 _ (by omega)).trans h3) ((f1 _ (by omega)).trans h4) (fun _ _ => ⟨rfl, rfl⟩) (fun g hg => by omega) (fun _ _ _ => rfl)
  · intro M2 fl' fh' a1 a2 a3 a4 a5
    refine g_iload d_Mo_move_33 rfl ?_
    refine g_iconst (v := nI 4) d_Mo_move_35 (by decide) ?_
    refine g_icmpN_ge (tgt := 93) d_Mo_move_36 (by decide) (by omega) (by omega) (fun hb_36 => ?_) (fun hb_36 => ?_)
    · exact g_return rfl (by omega) (by omega) d_Mo_move_93 ⟨_, rfl, rfl, rfl, ⟨fl', fh', (a5 _ (by omega) (by omega)).trans e1, a1, a2, a3, a4⟩, fun x x1 x2 x3 => (a5 x x2 x3).trans (f1 x x1)⟩
    · omega
  · intro f hf ih M2 fl' fh' a1 a2 a3 a4 a5
    have g1 : M2 W = _ := (a5 W (by omega) (by omega)).trans ((f1 W (by omega)).trans h)
    have r1 := a3 (4 * (8 * j + p) + f) (fun g hg => by omega)
    refine g_iload d_Mo_move_33 rfl ?_
    refine g_iconst (v := nI 4) d_Mo_move_35 (by decide) ?_
    refine g_icmpN_ge (tgt := 93) d_Mo_move_36 (by decide) (by omega) (by omega) (fun hb_36 => ?_) (fun hb_36 => ?_)
    · omega
    refine g_aload_n d_Mo_move_39 rfl ?_
    refine g_get f_Mo_16 (by assumption) rfl d_Mo_move_40 ?_
    refine g_iconst (v := nI 4) d_Mo_move_43 (by decide) ?_
    refine g_iload d_Mo_move_44 rfl ?_
    refine g_imul d_Mo_move_46 ?_
    refine g_eqi (pk_mul _ _) ?_
    refine g_iload d_Mo_move_47 rfl ?_
    refine g_iadd d_Mo_move_49 ?_
    refine g_eqi (nI_add _ _) ?_
    refine g_aload_n d_Mo_move_50 rfl ?_
    refine g_get f_Mo_16 (by assumption) rfl d_Mo_move_51 ?_
    refine g_iconst (v := nI 4) d_Mo_move_54 (by decide) ?_
    refine g_iload d_Mo_move_55 rfl ?_
    refine g_imul d_Mo_move_57 ?_
    refine g_eqi (pk_mul _ _) ?_
    refine g_iload d_Mo_move_58 rfl ?_
    refine g_iadd d_Mo_move_60 ?_
    refine g_eqi (nI_add _ _) ?_
    refine g_iald _ (by assumption) rfl (by omega) (by decide) d_Mo_move_61 ?_
    refine g_eqi r1.1 ?_
    refine g_iast _ (by assumption) rfl (by omega) (by decide) d_Mo_move_62 ?_
    refine g_nm (fun M3 e3 f3 => ?_)
    have g3 : M3 W = _ := (f3 W (by omega)).trans g1
    have b2 := (f3 (W + 4) (by omega)).trans a2
    refine g_aload_n d_Mo_move_63 rfl ?_
    refine g_get f_Mo_19 (by assumption) rfl d_Mo_move_64 ?_
    refine g_iconst (v := nI 4) d_Mo_move_67 (by decide) ?_
    refine g_iload d_Mo_move_68 rfl ?_
    refine g_imul d_Mo_move_70 ?_
    refine g_eqi (pk_mul _ _) ?_
    refine g_iload d_Mo_move_71 rfl ?_
    refine g_iadd d_Mo_move_73 ?_
    refine g_eqi (nI_add _ _) ?_
    refine g_aload_n d_Mo_move_74 rfl ?_
    refine g_get f_Mo_19 (by assumption) rfl d_Mo_move_75 ?_
    refine g_iconst (v := nI 4) d_Mo_move_78 (by decide) ?_
    refine g_iload d_Mo_move_79 rfl ?_
    refine g_imul d_Mo_move_81 ?_
    refine g_eqi (pk_mul _ _) ?_
    refine g_iload d_Mo_move_82 rfl ?_
    refine g_iadd d_Mo_move_84 ?_
    refine g_eqi (nI_add _ _) ?_
    refine g_iald _ (by assumption) rfl (by omega) (by decide) d_Mo_move_85 ?_
    refine g_eqi r1.2 ?_
    refine g_iast _ (by assumption) rfl (by omega) (by decide) d_Mo_move_86 ?_
    refine g_nm (fun M4 e4 f4 => ?_)
    refine g_iinc1 d_Mo_move_87 rfl (by decide) ?_
    refine g_goto (tgt := 33) d_Mo_move_90 (by decide) ?_
    refine ih M4 _ _ ((f4 _ (by omega)).trans e3) e4 (fun x hx => ?_) (fun g hg => ?_) (fun x x1 x2 => (f4 x x2).trans ((f3 x x1).trans (a5 x x1 x2)))
    · rw [pk_un (hx f (by omega)), pk_un (hx f (by omega))]
      exact a3 x (fun g hg => hx g (by omega))
    · by_cases e : g = f
      · subst e
        rw [pk_us, pk_us]
        exact ⟨rfl, rfl⟩
      · rw [pk_un (by omega), pk_un (by omega)]
        exact a4 g (by omega)
theorem k_Mo_moveR (h : M W = some (.inr (10, mo W th sz lk rc pl fa))) (hR : o_mR E M W kk rr) (hkk : ∀ j, j < 2 → kk j ≤ 8) (j p q : Nat) (hj : j < 2) (hp : p < kk j) (hq : q < kk j) (hne : p ≠ q) : Ctr l E y_Mo_move 0 [.ref W, .int (nI j), .int (nI p), .int (nI q)] N M 0 0 (g_ret (fun v N' M' => v = none ∧ N' = N ∧ o_mR E M' W kk (va_up rr j (va_up (rr j) q (rr j p))) ∧ ∀ x, x ≠ W + 2 → x ≠ W + 3 → x ≠ W + 4 → M' x = M x)) := by
  obtain ⟨⟨fv, a1, a2⟩, ⟨fl, b1, b2⟩, fh, c1, c2⟩ := hR
  have k8 := hkk j hj
  refine ctr_mono (k_Mo_move h a1 b1 c1 j p q hj (by omega) (by omega) hne) (fun o N' M' hq2 => ?_)
  obtain ⟨v, rfl, rfl, rfl, ⟨fl', fh', d1, d2, d3, d4, d5⟩, d6⟩ := hq2
  have hoth : ∀ j' i, j' < 2 → i < kk j' → (j' ≠ j ∨ i ≠ q) → va_up rr j (va_up (rr j) q (rr j p)) j' i = rr j' i := by
    intro j' i hj' hi hne2
    by_cases e : j' = j
    · subst e
      rw [va_up_self, va_up_ne _ _ (by omega)]
    · rw [va_up_ne _ _ e]
  have hown : va_up rr j (va_up (rr j) q (rr j p)) j q = rr j p := by rw [va_up_self, va_up_self]
  refine ⟨_, rfl, rfl, rfl, ⟨⟨_, d1, fun j' i hj' hi => ?_⟩, ⟨_, d2, fun j' i f hj' hi hf => ?_⟩, _, d3, fun j' i f hj' hi hf => ?_⟩, d6⟩
  · have i8 := hkk j' hj'
    by_cases e : j' = j ∧ i = q
    · obtain ⟨rfl, rfl⟩ := e
      rw [hown, pk_us]
      exact a2 j' p hj hp
    · rw [hoth j' i hj' hi (by omega), pk_un (by omega)]
      exact a2 j' i hj' hi
  · have i8 := hkk j' hj'
    by_cases e : j' = j ∧ i = q
    · obtain ⟨rfl, rfl⟩ := e
      rw [hown, (d5 f hf).1]
      exact b2 j' p f hj hp hf
    · rw [hoth j' i hj' hi (by omega), (d4 _ (fun g hg => by omega)).1]
      exact b2 j' i f hj' hi hf
  · have i8 := hkk j' hj'
    by_cases e : j' = j ∧ i = q
    · obtain ⟨rfl, rfl⟩ := e
      rw [hown, (d5 f hf).2]
      exact c2 j' p f hj hp hf
    · rw [hoth j' i hj' hi (by omega), (d4 _ (fun g hg => by omega)).2]
      exact c2 j' i f hj' hi hf
end MLISTS

