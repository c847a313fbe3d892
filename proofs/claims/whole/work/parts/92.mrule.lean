/-! the model reads a rule -/
theorem vhI (n : Nat) (ts : Nat → Nat) (a : Nat) : (if wv n ts a = spl 100 101 110 121 0 then nI 0 else if wv n ts a = spl 97 108 108 111 119 then nI 1 else if wv n ts a = spl 108 111 103 0 0 then nI 2 else -1) = fI (vh n ts a) 3 := by
  obtain ⟨v3, v4, v5, -⟩ := spw_v
  have i3 := wd_iff (n := n) (ts := ts) (a := a) (i := 3) (by omega) (by omega)
  have i4 := wd_iff (n := n) (ts := ts) (a := a) (i := 4) (by omega) (by omega)
  have i5 := wd_iff (n := n) (ts := ts) (a := a) (i := 5) (by omega) (by omega)
  obtain ⟨w0, w1, w2, w3⟩ := vh_cases n ts a
  rw [← v3, ← v4, ← v5]
  by_cases c3 : wd n ts a 3 = true
  · rw [if_pos (i3.mpr c3), w0 c3]; rfl
  · rw [if_neg (fun q => c3 (i3.mp q))]
    by_cases c4 : wd n ts a 4 = true
    · rw [if_pos (i4.mpr c4), w1 c3 c4]; rfl
    · rw [if_neg (fun q => c4 (i4.mp q))]
      by_cases c5 : wd n ts a 5 = true
      · rw [if_pos (i5.mpr c5), w2 c3 c4 c5]; rfl
      · rw [if_neg (fun q => c5 (i5.mp q)), w3 c3 c4 c5]; rfl
theorem fhI (n : Nat) (ts : Nat → Nat) (a : Nat) : (if wv n ts a = spl 115 114 99 0 0 then nI 0 else if wv n ts a = spl 100 115 116 0 0 then nI 1 else if wv n ts a = spl 112 111 114 116 0 then nI 2 else if wv n ts a = spl 112 114 111 116 111 then nI 3 else -1) = fI (fh n ts a) 4 := by
  obtain ⟨-, -, -, v6, v7, v8, v9, -⟩ := spw_v
  have i6 := wd_iff (n := n) (ts := ts) (a := a) (i := 6) (by omega) (by omega)
  have i7 := wd_iff (n := n) (ts := ts) (a := a) (i := 7) (by omega) (by omega)
  have i8 := wd_iff (n := n) (ts := ts) (a := a) (i := 8) (by omega) (by omega)
  have i9 := wd_iff (n := n) (ts := ts) (a := a) (i := 9) (by omega) (by omega)
  obtain ⟨w0, w1, w2, w3, w4⟩ := fh_cases n ts a
  rw [← v6, ← v7, ← v8, ← v9]
  by_cases c6 : wd n ts a 6 = true
  · rw [if_pos (i6.mpr c6), w0 c6]; rfl
  · rw [if_neg (fun q => c6 (i6.mp q))]
    by_cases c7 : wd n ts a 7 = true
    · rw [if_pos (i7.mpr c7), w1 c6 c7]; rfl
    · rw [if_neg (fun q => c7 (i7.mp q))]
      by_cases c8 : wd n ts a 8 = true
      · rw [if_pos (i8.mpr c8), w2 c6 c7 c8]; rfl
      · rw [if_neg (fun q => c8 (i8.mp q))]
        by_cases c9 : wd n ts a 9 = true
        · rw [if_pos (i9.mpr c9), w3 c6 c7 c8 c9]; rfl
        · rw [if_neg (fun q => c9 (i9.mp q)), w4 c6 c7 c8 c9]; rfl
theorem sFs_semi {n : Nat} {ts : Nat → Nat} {q : Nat} (h : sg n ts q 59 = true) (k t : Nat) (z : Rl) : sFs n ts k t q z = (true, nx n ts q, z) := by
  cases k with
  | zero => exact if_pos h
  | succ k => exact if_pos h
theorem sFs_0 {n : Nat} {ts : Nat → Nat} {q : Nat} (h : ¬ sg n ts q 59 = true) (t : Nat) (z : Rl) : sFs n ts 0 t q z = (false, q, z) := if_neg h
theorem sFs_s {n : Nat} {ts : Nat → Nat} {q : Nat} (h : ¬ sg n ts q 59 = true) (k t : Nat) (z : Rl) : sFs n ts (k + 1) t q z = if fh n ts q < 4 ∧ t.testBit (fh n ts q) = false then (if (sRg n ts (fh n ts q) (nx n ts q) z).1 = true then sFs n ts k (t ||| 2 ^ fh n ts q) (sRg n ts (fh n ts q) (nx n ts q) z).2.1 (sRg n ts (fh n ts q) (nx n ts q) z).2.2 else sRg n ts (fh n ts q) (nx n ts q) z) else (false, q, z) := if_neg h
theorem sRg_v (n : Nat) (ts : Nat → Nat) (f a : Nat) (z : Rl) : (sRg n ts f a z).2.2.1 = z.1 := by
  unfold sRg sGr sHb
  repeat' split
  all_goals rfl
def o_rp (E : gE) (M' : gM) (W : Nat) (th : Int32) (n : Nat) (lk : Int32) (ts : Nat → Nat) (c i : Nat) (fv fl fh : Nat → Int32) (s : sR) : Prop := ∃ (p' : Nat) (rc' fa' : Int32) (fv' fl' fh' : Nat → Int32), p' ≤ n + 1 ∧ M' W = some (.inr (10, mo W th (nI n) lk rc' (nI p') fa')) ∧ M' (W + 10) = some (g_ia E 8 fv') ∧ M' (W + 11) = some (g_ia E 32 fl') ∧ M' (W + 12) = some (g_ia E 32 fh') ∧ ((s.1 = true ∧ fa' = -1 ∧ rc' = nI (c + 1) ∧ bh n ts p' 1 = s.2.1 ∧ fv' i = nI s.2.2.1 ∧ (∀ g, g < 4 → fl' (4 * i + g) = nI (s.2.2.2.1 g) ∧ fh' (4 * i + g) = nI (s.2.2.2.2 g)) ∧ (∀ x, x ≠ i → fv' x = fv x) ∧ ∀ x, (x < 4 * i ∨ 4 * i + 4 ≤ x) → fl' x = fl x ∧ fh' x = fh x) ∨ (s.1 = false ∧ fa' = nI s.2.1 ∧ s.2.1 ≤ n))
section MRULE
variable {l : Launch} {E : gE} {N : Nat} {M : gM} {W n : Nat} {th lk fa : Int32} {ts : Nat → Nat} {fv fl fu : Nat → Int32}
theorem k_Mo_readRule (a c : Nat) (z : Rl) (ha : a ≤ n) (hc : c ≤ 240) (h : M W = some (.inr (10, mo W th (nI n) lk (nI c) (nI a) (-1)))) (hT : o_mt E M W n ts) (h10 : M (W + 10) = some (g_ia E 8 fv)) (h11 : M (W + 11) = some (g_ia E 32 fl)) (h12 : M (W + 12) = some (g_ia E 32 fu)) : Ctr l E y_Mo_readRule 4 [.ref W] N M 0 0 (g_ret (fun v N' M' => v = none ∧ N' = N ∧ o_rp E M' W th n lk ts c (min c 7) fv fl fu (sRu n ts a z) ∧ ∀ x, x ≠ W → x ≠ W + 10 → x ≠ W + 11 → x ≠ W + 12 → M' x = M x)) := by
  have hn := hT.1
  obtain ⟨s, hs⟩ : ∃ s, s = sRu n ts a z := ⟨_, rfl⟩
  rw [← hs]
  unfold sRu at hs
  have hq2 := (bh_in n ts a 2).2 ha
  refine ctr_of [some (.ref W), none, none, none, none, none, none] (by decide) w_991 rfl rfl (Nat.le_of_ble_eq_true rfl) (fun Γ => ?_)
  refine g_aload_n d_Mo_readRule_0 rfl ?_
  refine g_get f_Mo_61 (by assumption) rfl d_Mo_readRule_1 ?_
  refine g_istore_n d_Mo_readRule_4 (by decide) ?_
  refine g_aload_n d_Mo_readRule_5 rfl ?_
  refine g_callV s_Mo_88 sv_Mo_word (by assumption) rfl (k_Mo_word a (by omega) h hT) (by omega) rfl (by omega) (by omega) rfl (Nat.le_of_ble_eq_true rfl) d_Mo_readRule_6 ?_
  rintro v' N' M1 ⟨rfl, rfl, e1, f1⟩
  have v1 := (f1 (W + 10) (by omega)).trans h10
  have l1 := (f1 (W + 11) (by omega)).trans h11
  have u1 := (f1 (W + 12) (by omega)).trans h12
  refine g_callS s_Mo_99 sv_Mo_verdictOf (g_of_val (k_Mo_verdictOf _ (wv_lt n ts a))) (by omega) rfl (by omega) (by omega) rfl (Nat.le_of_ble_eq_true rfl) d_Mo_readRule_9 ?_
  rintro _ _ _ ⟨rfl, rfl, rfl⟩
  refine g_eqi (z := fI (vh n ts a) 3) (vhI n ts a) ?_
  by_cases hv : vh n ts a < 3
  rotate_left
  · rw [show fI (vh n ts a) 3 = -1 from if_neg hv]
    rw [if_neg hv] at hs
    refine g_istore_n d_Mo_readRule_12 (by decide) ?_
    refine g_iload_n d_Mo_readRule_13 rfl ?_
    refine g_if_ge (tgt := 23) d_Mo_readRule_14 (by decide) (fun hb => absurd hb (by decide)) (fun _ => ?_)
    refine g_aload_n d_Mo_readRule_17 rfl ?_
    refine g_iload_n d_Mo_readRule_18 rfl ?_
    refine g_callV s_Mo_84 sv_Mo_bad (by assumption) rfl (k_Mo_bad e1 a) (by omega) rfl (by omega) (by omega) rfl (Nat.le_of_ble_eq_true rfl) d_Mo_readRule_19 ?_
    rintro v' N' M2 ⟨rfl, rfl, e2, f2⟩
    exact g_return rfl (by omega) (by omega) d_Mo_readRule_22 ⟨_, rfl, rfl, rfl, ⟨_, _, _, fv, fl, fu, Nat.le_succ_of_le hq2, e2, (f2 _ (by omega)).trans v1, (f2 _ (by omega)).trans l1, (f2 _ (by omega)).trans u1, Or.inr ⟨by rw [hs], by rw [hs], by rw [hs]; exact ha⟩⟩, fun x x1 _ _ _ => (f2 x x1).trans (f1 x x1)⟩
  rw [show fI (vh n ts a) 3 = nI (vh n ts a) from if_pos hv]
  rw [if_pos hv] at hs
  have hk := vh_kd hv
  have hte : tE n ts a = bh n ts a 2 := by unfold tE; rw [if_pos (Or.inl hk), hk]
  have hnx : bh n ts (bh n ts a 2) 1 = nx n ts a := by unfold nx; rw [hte]
  generalize vh n ts a = v at hv hs ⊢
  refine g_istore_n d_Mo_readRule_12 (by decide) ?_
  refine g_iload_n d_Mo_readRule_13 rfl ?_
  refine g_ifN_ge (tgt := 23) d_Mo_readRule_14 (by decide) (by omega) (fun _ => ?_) (fun hb => hb.elim)
  refine g_cut 41 (fun _ => [some (.ref W), some (.int (nI a)), some (.int (nI v)), none, none, none, none]) [.int (nI (min c 7))] (fun _ => ?_) (fun kk => ?_)
  rotate_left
  · refine g_aload_n d_Mo_readRule_23 rfl ?_
    refine g_get f_Mo_102 (by assumption) rfl d_Mo_readRule_24 ?_
    refine g_bipush (v := nI 8) d_Mo_readRule_27 (by decide) ?_
    refine g_icmpN_ge (tgt := 39) d_Mo_readRule_29 (by decide) (by omega) (by omega) (fun hb_29 => ?_) (fun hb_29 => ?_)
    · refine g_bipush (v := nI 7) d_Mo_readRule_39 (by decide) ?_
      refine g_eqi (z := nI (min c 7)) (by rw [show min c 7 = 7 by omega]) ?_
      exact kk none
    · refine g_aload_n d_Mo_readRule_32 rfl ?_
      refine g_get f_Mo_102 (by assumption) rfl d_Mo_readRule_33 ?_
      refine g_goto (tgt := 41) d_Mo_readRule_36 (by decide) ?_
      refine g_eqi (z := nI (min c 7)) (by rw [show min c 7 = c by omega]) ?_
      exact kk none
  have hi : min c 7 < 8 := by omega
  generalize min c 7 = i at hi ⊢
  refine g_istore_n d_Mo_readRule_41 (by decide) ?_
  refine g_aload_n d_Mo_readRule_42 rfl ?_
  refine g_get f_Mo_37 (by assumption) rfl d_Mo_readRule_43 ?_
  refine g_iload_n d_Mo_readRule_46 rfl ?_
  refine g_iload_n d_Mo_readRule_47 rfl ?_
  refine g_iast _ (by assumption) rfl (by omega) (by decide) d_Mo_readRule_48 ?_
  refine g_nm (fun M2 v2 f2 => ?_)
  have e2 := (f2 W (by omega)).trans e1
  refine g_aload_n d_Mo_readRule_49 rfl ?_
  refine g_dup d_Mo_readRule_50 rfl ?_
  refine g_get f_Mo_102 (by assumption) rfl d_Mo_readRule_51 ?_
  refine g_iconst (v := nI 1) d_Mo_readRule_54 (by decide) ?_
  refine g_iadd d_Mo_readRule_55 ?_
  refine g_eqi (nI_add _ _) ?_
  refine g_put p_Mo_102 (by assumption) (Nat.le_of_ble_eq_true rfl) rfl rfl d_Mo_readRule_56 ?_
  refine g_nm (fun M3 e3 f3 => ?_)
  have v3 := (f3 (W + 10) (by omega)).trans v2
  have l3 := (f3 (W + 11) (by omega)).trans ((f2 (W + 11) (by omega)).trans l1)
  have u3 := (f3 (W + 12) (by omega)).trans ((f2 (W + 12) (by omega)).trans u1)
  have fr3 : ∀ x, x ≠ W → x ≠ W + 10 → M3 x = M x := fun x x1 x2 => (f3 x x1).trans ((f2 x x2).trans (f1 x x1))
  refine g_iconst (v := nI 0) d_Mo_readRule_59 (by decide) ?_
  refine g_istore d_Mo_readRule_60 (by decide) ?_
  refine g_iconst (v := nI 0) d_Mo_readRule_62 (by decide) ?_
  refine g_istore d_Mo_readRule_63 (by decide) ?_
  refine g_for (P := fun g => ∀ (M4 : gM) (fl4 fh4 : Nat → Int32), M4 (W + 11) = some (g_ia E 32 fl4) → M4 (W + 12) = some (g_ia E 32 fh4) → (∀ t, t < g → fl4 (4 * i + t) = nI 0 ∧ fh4 (4 * i + t) = nI (mst t)) → (∀ x, (x < 4 * i ∨ 4 * i + 4 ≤ x) → fl4 x = fl x ∧ fh4 x = fu x) → (∀ x, x ≠ W + 11 → x ≠ W + 12 → M4 x = M3 x) → G _ _ _ _ _ _ _ _ _ _ _ _ 65 [some (.ref W), some (.int (nI a)), some (.int (nI v)), some (.int (nI i)), some (.int (nI 0)), some (.int (nI g)), none] [] _ M4 0 0) (e := 4) ?_ ?_ 0 (by omega) M3 fl fu l3 u3 (fun t ht => by omega) (fun _ _ => ⟨rfl, rfl⟩) (fun _ _ _ => rfl)
  rotate_left
  · intro g hg ih M4 fl4 fh4 l4 u4 r4 o4 f4
    have e4 := (f4 W (by omega) (by omega)).trans e3
    refine g_iload d_Mo_readRule_65 rfl ?_
    refine g_iconst (v := nI 4) d_Mo_readRule_67 (by decide) ?_
    refine g_icmpN_ge (tgt := 105) d_Mo_readRule_68 (by decide) (by omega) (by omega) (fun hb_68 => ?_) (fun hb_68 => ?_)
    · omega
    refine g_aload_n d_Mo_readRule_71 rfl ?_
    refine g_get f_Mo_40 (by assumption) rfl d_Mo_readRule_72 ?_
    refine g_iconst (v := nI 4) d_Mo_readRule_75 (by decide) ?_
    refine g_iload_n d_Mo_readRule_76 rfl ?_
    refine g_imul d_Mo_readRule_77 ?_
    refine g_eqi (pk_mul _ _) ?_
    refine g_iload d_Mo_readRule_78 rfl ?_
    refine g_iadd d_Mo_readRule_80 ?_
    refine g_eqi (nI_add _ _) ?_
    refine g_iconst (v := nI 0) d_Mo_readRule_81 (by decide) ?_
    refine g_iast _ (by assumption) rfl (by omega) (by decide) d_Mo_readRule_82 ?_
    refine g_nm (fun M5 l5 f5 => ?_)
    have e5 := (f5 W (by omega)).trans e4
    have u5 := (f5 (W + 12) (by omega)).trans u4
    refine g_aload_n d_Mo_readRule_83 rfl ?_
    refine g_get f_Mo_43 (by assumption) rfl d_Mo_readRule_84 ?_
    refine g_iconst (v := nI 4) d_Mo_readRule_87 (by decide) ?_
    refine g_iload_n d_Mo_readRule_88 rfl ?_
    refine g_imul d_Mo_readRule_89 ?_
    refine g_eqi (pk_mul _ _) ?_
    refine g_iload d_Mo_readRule_90 rfl ?_
    refine g_iadd d_Mo_readRule_92 ?_
    refine g_eqi (nI_add _ _) ?_
    refine g_iload d_Mo_readRule_93 rfl ?_
    refine g_callS s_Mo_92 sv_Mo_most (g_of_val (k_Mo_most g hg)) (by omega) rfl (by omega) (by omega) rfl (Nat.le_of_ble_eq_true rfl) d_Mo_readRule_95 ?_
    rintro _ _ _ ⟨rfl, rfl, rfl⟩
    refine g_iast _ (by assumption) rfl (by omega) (by decide) d_Mo_readRule_98 ?_
    refine g_nm (fun M6 u6 f6 => ?_)
    have l6 := (f6 (W + 11) (by omega)).trans l5
    refine g_iinc1 d_Mo_readRule_99 rfl (by decide) ?_
    refine g_goto (tgt := 65) d_Mo_readRule_102 (by decide) ?_
    refine ih M6 _ _ l6 u6 (fun t ht => ?_) (fun x hx => ?_) (fun x x1 x2 => (f6 x x2).trans ((f5 x x1).trans (f4 x x1 x2)))
    · by_cases e : t = g
      · subst e; rw [pk_us, pk_us]; exact ⟨rfl, rfl⟩
      · rw [pk_un (by omega), pk_un (by omega)]; exact r4 t (by omega)
    · rw [pk_un (by omega), pk_un (by omega)]; exact o4 x hx
  intro M4 fl4 fh4 l4 u4 r4 o4 f4
  have e4 := (f4 W (by omega) (by omega)).trans e3
  have v4 := (f4 (W + 10) (by omega) (by omega)).trans v3
  have fr4 : ∀ x, x ≠ W → x ≠ W + 10 → x ≠ W + 11 → x ≠ W + 12 → M4 x = M x := fun x x1 x2 x3 x4 => (f4 x x3 x4).trans (fr3 x x1 x2)
  have hT4 : o_mt E M4 W n ts := hT.kept (fr4 _ (by omega) (by omega) (by omega) (by omega))
  refine g_iload d_Mo_readRule_65 rfl ?_
  refine g_iconst (v := nI 4) d_Mo_readRule_67 (by decide) ?_
  refine g_icmpN_ge (tgt := 105) d_Mo_readRule_68 (by decide) (by omega) (by omega) (fun hb_68 => ?_) (fun hb_68 => ?_)
  rotate_left
  · omega
  refine g_aload_n d_Mo_readRule_105 rfl ?_
  refine g_callV s_Mo_78 sv_Mo_blanks (by assumption) rfl (k_Mo_blanks (bh n ts a 2) (by omega) e4 hT4) (by omega) rfl (by omega) (by omega) rfl (Nat.le_of_ble_eq_true rfl) d_Mo_readRule_106 ?_
  rintro v' N' M5 ⟨rfl, rfl, e5, f5⟩
  rw [hnx] at e5
  have v5 := (f5 (W + 10) (by omega)).trans v4
  have l5 := (f5 (W + 11) (by omega)).trans l4
  have u5 := (f5 (W + 12) (by omega)).trans u4
  have hT5 := hT4.kept (M' := M5) (f5 _ (by omega))
  have fr5 : ∀ x, x ≠ W → x ≠ W + 10 → x ≠ W + 11 → x ≠ W + 12 → M5 x = M x := fun x x1 x2 x3 x4 => (f5 x x1).trans (fr4 x x1 x2 x3 x4)
  have hbx : bh n ts (nx n ts a) 1 = nx n ts a := by unfold nx; exact bh_bh n ts _ 1
  refine g_for (P := fun j => ∀ (M6 : gM) (q t : Nat) (z6 : Rl) (fl6 fh6 : Nat → Int32) (y5 y6 : Option Value), q ≤ n → t < 16 → cb t = j → bh n ts q 1 = q → M6 W = some (.inr (10, mo W th (nI n) lk (nI (c + 1)) (nI q) (-1))) → o_mt E M6 W n ts → M6 (W + 10) = some (g_ia E 8 (upd fv i (nI v))) → M6 (W + 11) = some (g_ia E 32 fl6) → M6 (W + 12) = some (g_ia E 32 fh6) → z6.1 = v → (∀ g, g < 4 → fl6 (4 * i + g) = nI (z6.2.1 g) ∧ fh6 (4 * i + g) = nI (z6.2.2 g)) → (∀ x, (x < 4 * i ∨ 4 * i + 4 ≤ x) → fl6 x = fl x ∧ fh6 x = fu x) → s = sFs n ts (4 - j) t q z6 → (∀ x, x ≠ W → x ≠ W + 10 → x ≠ W + 11 → x ≠ W + 12 → M6 x = M x) → G _ _ _ _ _ _ _ _ _ _ _ _ 109 [some (.ref W), some (.int (nI a)), some (.int (nI v)), some (.int (nI i)), some (.int (nI t)), y5, y6] [] _ M6 0 0) (e := 4) ?_ ?_ 0 (by omega) M5 (nx n ts a) 0 (v, fun _ => 0, mst) fl4 fh4 _ _ (nx_le ha) (by omega) (by decide) hbx e5 hT5 v5 l5 u5 rfl (fun g hg => r4 g hg) o4 hs fr5
  · intro  M6 q t z6 fl6 fh6 y5 y6 hq ht hcb hbq e6 hT6 v6 l6 u6 hz1 hz o6 hs6 fr6
    have hw2 := (bh_in n ts q 2).2 hq
    have hl6 := sgt_lt hT6 q
    refine g_aload_n d_Mo_readRule_109 rfl ?_
    refine g_get f_Mo_67 (by assumption) rfl d_Mo_readRule_110 ?_
    refine g_if_ge (tgt := 192) d_Mo_readRule_113 (by decide) (fun hb => absurd hb (by decide)) (fun _ => ?_)
    refine g_aload_n d_Mo_readRule_116 rfl ?_
    refine g_aload_n d_Mo_readRule_117 rfl ?_
    refine g_get f_Mo_61 (by assumption) rfl d_Mo_readRule_118 ?_
    refine g_callV s_Mo_64 sv_Mo_sign (by assumption) rfl (g_of_val (k_Mo_sign e6 hT6 q (by omega))) (by omega) rfl (by omega) (by omega) rfl (Nat.le_of_ble_eq_true rfl) d_Mo_readRule_121 ?_
    rintro _ _ _ ⟨rfl, rfl, rfl⟩
    refine g_bipush (v := nI 59) d_Mo_readRule_124 (by decide) ?_
    refine g_icmpN_eq (tgt := 192) d_Mo_readRule_126 (by decide) (by omega) (by omega) (fun hb_126 => ?_) (fun hb_126 => ?_)
    · have hsg := (sgt_c n ts q (c := 59) (by omega)).mp hb_126
      obtain ⟨hqn, hte2⟩ := sg_lt hsg
      rw [sFs_semi hsg] at hs6
      refine g_aload_n d_Mo_readRule_192 rfl ?_
      refine g_dup d_Mo_readRule_193 rfl ?_
      refine g_get f_Mo_61 (by assumption) rfl d_Mo_readRule_194 ?_
      refine g_iconst (v := nI 1) d_Mo_readRule_197 (by decide) ?_
      refine g_iadd d_Mo_readRule_198 ?_
      refine g_eqi (nI_add _ _) ?_
      refine g_put p_Mo_61 (by assumption) (Nat.le_of_ble_eq_true rfl) rfl rfl d_Mo_readRule_199 ?_
      refine g_nm (fun M7 e7 f7 => ?_)
      exact g_return rfl (by omega) (by omega) d_Mo_readRule_202 ⟨_, rfl, rfl, rfl, ⟨_, _, _, _, _, _, by omega, e7, (f7 _ (by omega)).trans v6, (f7 _ (by omega)).trans l6, (f7 _ (by omega)).trans u6, Or.inl ⟨by rw [hs6], rfl, rfl, by rw [hs6]; show _ = nx n ts q; unfold nx; rw [hte2], by rw [hs6, pk_us]; exact congrArg nI hz1.symm, by rw [hs6]; exact hz, fun x hx => pk_un hx, o6⟩⟩, fun x x1 x2 x3 x4 => (f7 x x1).trans (fr6 x x1 x2 x3 x4)⟩
    have hsg : ¬ sg n ts q 59 = true := fun w => hb_126 ((sgt_c n ts q (c := 59) (by omega)).mpr w)
    refine g_aload_n d_Mo_readRule_129 rfl ?_
    refine g_get f_Mo_61 (by assumption) rfl d_Mo_readRule_130 ?_
    refine g_istore d_Mo_readRule_133 (by decide) ?_
    refine g_aload_n d_Mo_readRule_135 rfl ?_
    refine g_callV s_Mo_88 sv_Mo_word (by assumption) rfl (k_Mo_word q (by omega) e6 hT6) (by omega) rfl (by omega) (by omega) rfl (Nat.le_of_ble_eq_true rfl) d_Mo_readRule_136 ?_
    rintro v' N' M7 ⟨rfl, rfl, e7, f7⟩
    have v7 := (f7 (W + 10) (by omega)).trans v6
    have l7 := (f7 (W + 11) (by omega)).trans l6
    have u7 := (f7 (W + 12) (by omega)).trans u6
    refine g_callS s_Mo_105 sv_Mo_fieldOf (g_of_val (k_Mo_fieldOf _ (wv_lt n ts q))) (by omega) rfl (by omega) (by omega) rfl (Nat.le_of_ble_eq_true rfl) d_Mo_readRule_139 ?_
    rintro _ _ _ ⟨rfl, rfl, rfl⟩
    refine g_eqi (z := fI (fh n ts q) 4) (fhI n ts q) ?_
    rw [show 4 - 4 = 0 from rfl, sFs_0 hsg] at hs6
    have hs7 := hs6
    by_cases hfh : fh n ts q < 4
    rotate_left
    · rw [show fI (fh n ts q) 4 = -1 from if_neg hfh]
      refine g_istore d_Mo_readRule_142 (by decide) ?_
      refine g_iload d_Mo_readRule_144 rfl ?_
      refine g_if_lt (tgt := 160) d_Mo_readRule_146 (by decide) (fun _ => ?_) (fun hb => absurd (by decide) hb)
      refine g_aload_n d_Mo_readRule_160 rfl ?_
      refine g_iload d_Mo_readRule_161 rfl ?_
      refine g_callV s_Mo_84 sv_Mo_bad (by assumption) rfl (k_Mo_bad e7 q) (by omega) rfl (by omega) (by omega) rfl (Nat.le_of_ble_eq_true rfl) d_Mo_readRule_163 ?_
      rintro v' N' M8 ⟨rfl, rfl, e8, f8⟩
      refine g_goto (tgt := 189) d_Mo_readRule_166 (by decide) ?_
      refine g_goto (tgt := 109) d_Mo_readRule_189 (by decide) ?_
      refine g_aload_n d_Mo_readRule_109 rfl ?_
      refine g_get f_Mo_67 (by assumption) rfl d_Mo_readRule_110 ?_
      refine g_ifN_ge (tgt := 192) d_Mo_readRule_113 (by decide) (by omega) (fun _ => ?_) (fun hb => hb.elim)
      refine g_aload_n d_Mo_readRule_192 rfl ?_
      refine g_dup d_Mo_readRule_193 rfl ?_
      refine g_get f_Mo_61 (by assumption) rfl d_Mo_readRule_194 ?_
      refine g_iconst (v := nI 1) d_Mo_readRule_197 (by decide) ?_
      refine g_iadd d_Mo_readRule_198 ?_
      refine g_eqi (nI_add _ _) ?_
      refine g_put p_Mo_61 (by assumption) (Nat.le_of_ble_eq_true rfl) rfl rfl d_Mo_readRule_199 ?_
      refine g_nm (fun M9 e9 f9 => ?_)
      exact g_return rfl (by omega) (by omega) d_Mo_readRule_202 ⟨_, rfl, rfl, rfl, ⟨_, _, _, _, _, _, by omega, e9, (f9 _ (by omega)).trans ((f8 _ (by omega)).trans v7), (f9 _ (by omega)).trans ((f8 _ (by omega)).trans l7), (f9 _ (by omega)).trans ((f8 _ (by omega)).trans u7), Or.inr ⟨by rw [hs7], by rw [hs7], by rw [hs7]; exact hq⟩⟩, fun x x1 x2 x3 x4 => (f9 x x1).trans ((f8 x x1).trans ((f7 x x1).trans (fr6 x x1 x2 x3 x4)))⟩
    have hkq := fh_kd hfh
    have hteq : tE n ts q = bh n ts q 2 := by unfold tE; rw [if_pos (Or.inl hkq), hkq]
    have hnxq : bh n ts (bh n ts q 2) 1 = nx n ts q := by unfold nx; rw [hteq]
    rw [show fI (fh n ts q) 4 = nI (fh n ts q) from if_pos hfh]
    have hb1 := bit_1 t (fh n ts q)
    have hb2 := bit_lt t (fh n ts q)
    refine g_istore d_Mo_readRule_142 (by decide) ?_
    refine g_iload d_Mo_readRule_144 rfl ?_
    refine g_ifN_lt (tgt := 160) d_Mo_readRule_146 (by decide) (by omega) (fun hb => hb.elim) (fun _ => ?_)
    refine g_iload d_Mo_readRule_149 rfl ?_
    refine g_iload d_Mo_readRule_151 rfl ?_
    refine g_ishr d_Mo_readRule_153 ?_
    refine g_eqi (nI_shr (by omega) (by omega)) ?_
    refine g_iconst (v := nI 1) d_Mo_readRule_154 (by decide) ?_
    refine g_iand d_Mo_readRule_155 ?_
    refine g_eqi (nI_and _ _) ?_
    refine g_iconst (v := nI 1) d_Mo_readRule_156 (by decide) ?_
    refine g_icmpN_ne (tgt := 169) d_Mo_readRule_157 (by decide) (by omega) (by omega) (fun hb_157 => ?_) (fun hb_157 => ?_)
    rotate_left
    · skip
      refine g_aload_n d_Mo_readRule_160 rfl ?_
      refine g_iload d_Mo_readRule_161 rfl ?_
      refine g_callV s_Mo_84 sv_Mo_bad (by assumption) rfl (k_Mo_bad e7 q) (by omega) rfl (by omega) (by omega) rfl (Nat.le_of_ble_eq_true rfl) d_Mo_readRule_163 ?_
      rintro v' N' M8 ⟨rfl, rfl, e8, f8⟩
      refine g_goto (tgt := 189) d_Mo_readRule_166 (by decide) ?_
      refine g_goto (tgt := 109) d_Mo_readRule_189 (by decide) ?_
      refine g_aload_n d_Mo_readRule_109 rfl ?_
      refine g_get f_Mo_67 (by assumption) rfl d_Mo_readRule_110 ?_
      refine g_ifN_ge (tgt := 192) d_Mo_readRule_113 (by decide) (by omega) (fun _ => ?_) (fun hb => hb.elim)
      refine g_aload_n d_Mo_readRule_192 rfl ?_
      refine g_dup d_Mo_readRule_193 rfl ?_
      refine g_get f_Mo_61 (by assumption) rfl d_Mo_readRule_194 ?_
      refine g_iconst (v := nI 1) d_Mo_readRule_197 (by decide) ?_
      refine g_iadd d_Mo_readRule_198 ?_
      refine g_eqi (nI_add _ _) ?_
      refine g_put p_Mo_61 (by assumption) (Nat.le_of_ble_eq_true rfl) rfl rfl d_Mo_readRule_199 ?_
      refine g_nm (fun M9 e9 f9 => ?_)
      exact g_return rfl (by omega) (by omega) d_Mo_readRule_202 ⟨_, rfl, rfl, rfl, ⟨_, _, _, _, _, _, by omega, e9, (f9 _ (by omega)).trans ((f8 _ (by omega)).trans v7), (f9 _ (by omega)).trans ((f8 _ (by omega)).trans l7), (f9 _ (by omega)).trans ((f8 _ (by omega)).trans u7), Or.inr ⟨by rw [hs7], by rw [hs7], by rw [hs7]; exact hq⟩⟩, fun x x1 x2 x3 x4 => (f9 x x1).trans ((f8 x x1).trans ((f7 x x1).trans (fr6 x x1 x2 x3 x4)))⟩
    exact absurd (hb1.mpr (cb_4 t ht hcb _ hfh)) hb_157
  · intro j hj ih M6 q t z6 fl6 fh6 y5 y6 hq ht hcb hbq e6 hT6 v6 l6 u6 hz1 hz o6 hs6 fr6
    have hw2 := (bh_in n ts q 2).2 hq
    have hl6 := sgt_lt hT6 q
    refine g_aload_n d_Mo_readRule_109 rfl ?_
    refine g_get f_Mo_67 (by assumption) rfl d_Mo_readRule_110 ?_
    refine g_if_ge (tgt := 192) d_Mo_readRule_113 (by decide) (fun hb => absurd hb (by decide)) (fun _ => ?_)
    refine g_aload_n d_Mo_readRule_116 rfl ?_
    refine g_aload_n d_Mo_readRule_117 rfl ?_
    refine g_get f_Mo_61 (by assumption) rfl d_Mo_readRule_118 ?_
    refine g_callV s_Mo_64 sv_Mo_sign (by assumption) rfl (g_of_val (k_Mo_sign e6 hT6 q (by omega))) (by omega) rfl (by omega) (by omega) rfl (Nat.le_of_ble_eq_true rfl) d_Mo_readRule_121 ?_
    rintro _ _ _ ⟨rfl, rfl, rfl⟩
    refine g_bipush (v := nI 59) d_Mo_readRule_124 (by decide) ?_
    refine g_icmpN_eq (tgt := 192) d_Mo_readRule_126 (by decide) (by omega) (by omega) (fun hb_126 => ?_) (fun hb_126 => ?_)
    · have hsg := (sgt_c n ts q (c := 59) (by omega)).mp hb_126
      obtain ⟨hqn, hte2⟩ := sg_lt hsg
      rw [sFs_semi hsg] at hs6
      refine g_aload_n d_Mo_readRule_192 rfl ?_
      refine g_dup d_Mo_readRule_193 rfl ?_
      refine g_get f_Mo_61 (by assumption) rfl d_Mo_readRule_194 ?_
      refine g_iconst (v := nI 1) d_Mo_readRule_197 (by decide) ?_
      refine g_iadd d_Mo_readRule_198 ?_
      refine g_eqi (nI_add _ _) ?_
      refine g_put p_Mo_61 (by assumption) (Nat.le_of_ble_eq_true rfl) rfl rfl d_Mo_readRule_199 ?_
      refine g_nm (fun M7 e7 f7 => ?_)
      exact g_return rfl (by omega) (by omega) d_Mo_readRule_202 ⟨_, rfl, rfl, rfl, ⟨_, _, _, _, _, _, by omega, e7, (f7 _ (by omega)).trans v6, (f7 _ (by omega)).trans l6, (f7 _ (by omega)).trans u6, Or.inl ⟨by rw [hs6], rfl, rfl, by rw [hs6]; show _ = nx n ts q; unfold nx; rw [hte2], by rw [hs6, pk_us]; exact congrArg nI hz1.symm, by rw [hs6]; exact hz, fun x hx => pk_un hx, o6⟩⟩, fun x x1 x2 x3 x4 => (f7 x x1).trans (fr6 x x1 x2 x3 x4)⟩
    have hsg : ¬ sg n ts q 59 = true := fun w => hb_126 ((sgt_c n ts q (c := 59) (by omega)).mpr w)
    refine g_aload_n d_Mo_readRule_129 rfl ?_
    refine g_get f_Mo_61 (by assumption) rfl d_Mo_readRule_130 ?_
    refine g_istore d_Mo_readRule_133 (by decide) ?_
    refine g_aload_n d_Mo_readRule_135 rfl ?_
    refine g_callV s_Mo_88 sv_Mo_word (by assumption) rfl (k_Mo_word q (by omega) e6 hT6) (by omega) rfl (by omega) (by omega) rfl (Nat.le_of_ble_eq_true rfl) d_Mo_readRule_136 ?_
    rintro v' N' M7 ⟨rfl, rfl, e7, f7⟩
    have v7 := (f7 (W + 10) (by omega)).trans v6
    have l7 := (f7 (W + 11) (by omega)).trans l6
    have u7 := (f7 (W + 12) (by omega)).trans u6
    refine g_callS s_Mo_105 sv_Mo_fieldOf (g_of_val (k_Mo_fieldOf _ (wv_lt n ts q))) (by omega) rfl (by omega) (by omega) rfl (Nat.le_of_ble_eq_true rfl) d_Mo_readRule_139 ?_
    rintro _ _ _ ⟨rfl, rfl, rfl⟩
    refine g_eqi (z := fI (fh n ts q) 4) (fhI n ts q) ?_
    rw [show 4 - j = (3 - j) + 1 by omega, sFs_s hsg] at hs6
    rw [show 4 - (j + 1) = 3 - j by omega] at ih
    by_cases hfh : fh n ts q < 4
    rotate_left
    · rw [show fI (fh n ts q) 4 = -1 from if_neg hfh]
      have hs7 : s = (false, q, z6) := by rw [hs6, if_neg (fun w => hfh w.1)]
      refine g_istore d_Mo_readRule_142 (by decide) ?_
      refine g_iload d_Mo_readRule_144 rfl ?_
      refine g_if_lt (tgt := 160) d_Mo_readRule_146 (by decide) (fun _ => ?_) (fun hb => absurd (by decide) hb)
      refine g_aload_n d_Mo_readRule_160 rfl ?_
      refine g_iload d_Mo_readRule_161 rfl ?_
      refine g_callV s_Mo_84 sv_Mo_bad (by assumption) rfl (k_Mo_bad e7 q) (by omega) rfl (by omega) (by omega) rfl (Nat.le_of_ble_eq_true rfl) d_Mo_readRule_163 ?_
      rintro v' N' M8 ⟨rfl, rfl, e8, f8⟩
      refine g_goto (tgt := 189) d_Mo_readRule_166 (by decide) ?_
      refine g_goto (tgt := 109) d_Mo_readRule_189 (by decide) ?_
      refine g_aload_n d_Mo_readRule_109 rfl ?_
      refine g_get f_Mo_67 (by assumption) rfl d_Mo_readRule_110 ?_
      refine g_ifN_ge (tgt := 192) d_Mo_readRule_113 (by decide) (by omega) (fun _ => ?_) (fun hb => hb.elim)
      refine g_aload_n d_Mo_readRule_192 rfl ?_
      refine g_dup d_Mo_readRule_193 rfl ?_
      refine g_get f_Mo_61 (by assumption) rfl d_Mo_readRule_194 ?_
      refine g_iconst (v := nI 1) d_Mo_readRule_197 (by decide) ?_
      refine g_iadd d_Mo_readRule_198 ?_
      refine g_eqi (nI_add _ _) ?_
      refine g_put p_Mo_61 (by assumption) (Nat.le_of_ble_eq_true rfl) rfl rfl d_Mo_readRule_199 ?_
      refine g_nm (fun M9 e9 f9 => ?_)
      exact g_return rfl (by omega) (by omega) d_Mo_readRule_202 ⟨_, rfl, rfl, rfl, ⟨_, _, _, _, _, _, by omega, e9, (f9 _ (by omega)).trans ((f8 _ (by omega)).trans v7), (f9 _ (by omega)).trans ((f8 _ (by omega)).trans l7), (f9 _ (by omega)).trans ((f8 _ (by omega)).trans u7), Or.inr ⟨by rw [hs7], by rw [hs7], by rw [hs7]; exact hq⟩⟩, fun x x1 x2 x3 x4 => (f9 x x1).trans ((f8 x x1).trans ((f7 x x1).trans (fr6 x x1 x2 x3 x4)))⟩
    have hkq := fh_kd hfh
    have hteq : tE n ts q = bh n ts q 2 := by unfold tE; rw [if_pos (Or.inl hkq), hkq]
    have hnxq : bh n ts (bh n ts q 2) 1 = nx n ts q := by unfold nx; rw [hteq]
    rw [show fI (fh n ts q) 4 = nI (fh n ts q) from if_pos hfh]
    have hb1 := bit_1 t (fh n ts q)
    have hb2 := bit_lt t (fh n ts q)
    refine g_istore d_Mo_readRule_142 (by decide) ?_
    refine g_iload d_Mo_readRule_144 rfl ?_
    refine g_ifN_lt (tgt := 160) d_Mo_readRule_146 (by decide) (by omega) (fun hb => hb.elim) (fun _ => ?_)
    refine g_iload d_Mo_readRule_149 rfl ?_
    refine g_iload d_Mo_readRule_151 rfl ?_
    refine g_ishr d_Mo_readRule_153 ?_
    refine g_eqi (nI_shr (by omega) (by omega)) ?_
    refine g_iconst (v := nI 1) d_Mo_readRule_154 (by decide) ?_
    refine g_iand d_Mo_readRule_155 ?_
    refine g_eqi (nI_and _ _) ?_
    refine g_iconst (v := nI 1) d_Mo_readRule_156 (by decide) ?_
    refine g_icmpN_ne (tgt := 169) d_Mo_readRule_157 (by decide) (by omega) (by omega) (fun hb_157 => ?_) (fun hb_157 => ?_)
    rotate_left
    · have hs7 : s = (false, q, z6) := by rw [hs6, if_neg (fun w => by rw [hb1.mp hb_157] at w; exact absurd w.2 (by decide))]
      refine g_aload_n d_Mo_readRule_160 rfl ?_
      refine g_iload d_Mo_readRule_161 rfl ?_
      refine g_callV s_Mo_84 sv_Mo_bad (by assumption) rfl (k_Mo_bad e7 q) (by omega) rfl (by omega) (by omega) rfl (Nat.le_of_ble_eq_true rfl) d_Mo_readRule_163 ?_
      rintro v' N' M8 ⟨rfl, rfl, e8, f8⟩
      refine g_goto (tgt := 189) d_Mo_readRule_166 (by decide) ?_
      refine g_goto (tgt := 109) d_Mo_readRule_189 (by decide) ?_
      refine g_aload_n d_Mo_readRule_109 rfl ?_
      refine g_get f_Mo_67 (by assumption) rfl d_Mo_readRule_110 ?_
      refine g_ifN_ge (tgt := 192) d_Mo_readRule_113 (by decide) (by omega) (fun _ => ?_) (fun hb => hb.elim)
      refine g_aload_n d_Mo_readRule_192 rfl ?_
      refine g_dup d_Mo_readRule_193 rfl ?_
      refine g_get f_Mo_61 (by assumption) rfl d_Mo_readRule_194 ?_
      refine g_iconst (v := nI 1) d_Mo_readRule_197 (by decide) ?_
      refine g_iadd d_Mo_readRule_198 ?_
      refine g_eqi (nI_add _ _) ?_
      refine g_put p_Mo_61 (by assumption) (Nat.le_of_ble_eq_true rfl) rfl rfl d_Mo_readRule_199 ?_
      refine g_nm (fun M9 e9 f9 => ?_)
      exact g_return rfl (by omega) (by omega) d_Mo_readRule_202 ⟨_, rfl, rfl, rfl, ⟨_, _, _, _, _, _, by omega, e9, (f9 _ (by omega)).trans ((f8 _ (by omega)).trans v7), (f9 _ (by omega)).trans ((f8 _ (by omega)).trans l7), (f9 _ (by omega)).trans ((f8 _ (by omega)).trans u7), Or.inr ⟨by rw [hs7], by rw [hs7], by rw [hs7]; exact hq⟩⟩, fun x x1 x2 x3 x4 => (f9 x x1).trans ((f8 x x1).trans ((f7 x x1).trans (fr6 x x1 x2 x3 x4)))⟩
    have hbf : t.testBit (fh n ts q) = false := by
      cases w : t.testBit (fh n ts q) with
      | false => rfl
      | true => exact absurd (hb1.mpr w) hb_157
    rw [if_pos ⟨hfh, hbf⟩] at hs6
    have hcb2 := cb_or t ht _ hfh hbf
    have ho16 := or16 t ht _ hfh
    have hsv := sRg_v n ts (fh n ts q) (nx n ts q) z6
    have hT7 := hT6.kept (M' := M7) (f7 _ (by omega))
    have hval := fun (N : Nat) => k_Mo_values (l := l) (N := N) (z := z6) (bh n ts q 2) i (fh n ts q) hw2 hi hfh e7 hT7 l7 u7 hz
    rw [hnxq] at hval
    refine g_iload d_Mo_readRule_169 rfl ?_
    refine g_iconst (v := nI 1) d_Mo_readRule_171 (by decide) ?_
    refine g_iload d_Mo_readRule_172 rfl ?_
    refine g_ishl d_Mo_readRule_174 ?_
    refine g_eqi (nI_bit (by omega)) ?_
    refine g_ior d_Mo_readRule_175 ?_
    refine g_eqi (nI_or _ _) ?_
    refine g_istore d_Mo_readRule_176 (by decide) ?_
    refine g_aload_n d_Mo_readRule_178 rfl ?_
    refine g_iload_n d_Mo_readRule_179 rfl ?_
    refine g_iload d_Mo_readRule_180 rfl ?_
    refine g_callV s_Mo_108 sv_Mo_values (by assumption) rfl (hval _) (by omega) rfl (by omega) (by omega) rfl (Nat.le_of_ble_eq_true rfl) d_Mo_readRule_182 ?_
    rintro v' N' M8 ⟨rfl, rfl, ⟨p8, fa8, fl8, fh8, hp8, e8, l8, u8, hcase⟩, f8⟩
    have hT8 := hT7.kept (M' := M8) (f8 _ (by omega) (by omega) (by omega))
    have v8 := (f8 (W + 10) (by omega) (by omega) (by omega)).trans v7
    have hp8b := (bh_in n ts p8 1).2 hp8
    refine g_aload_n d_Mo_readRule_185 rfl ?_
    refine g_callV s_Mo_78 sv_Mo_blanks (by assumption) rfl (k_Mo_blanks p8 (by omega) e8 hT8) (by omega) rfl (by omega) (by omega) rfl (Nat.le_of_ble_eq_true rfl) d_Mo_readRule_186 ?_
    rintro v' N' M9 ⟨rfl, rfl, e9, f9⟩
    have v9 := (f9 (W + 10) (by omega)).trans v8
    have l9 := (f9 (W + 11) (by omega)).trans l8
    have u9 := (f9 (W + 12) (by omega)).trans u8
    have fr9 : ∀ x, x ≠ W → x ≠ W + 10 → x ≠ W + 11 → x ≠ W + 12 → M9 x = M x := fun x x1 x2 x3 x4 => (f9 x x1).trans ((f8 x x1 x3 x4).trans ((f7 x x1).trans (fr6 x x1 x2 x3 x4)))
    have hbb8 := bh_bh n ts p8 1
    rcases hcase with ⟨h1, rfl, h3, h4, h5⟩ | ⟨h1, rfl, h3⟩
    · rw [if_pos h1, ← h3] at hs6
      refine g_goto (tgt := 109) d_Mo_readRule_189 (by decide) ?_
      exact ih M9 (bh n ts p8 1) _ _ fl8 fh8 _ _ hp8b ho16 (by rw [hcb2, hcb]) hbb8 e9 (hT8.kept (f9 _ (by omega))) v9 l9 u9 (hsv.trans hz1) h4 (fun x hx => ⟨(h5 x hx).1.trans (o6 x hx).1, (h5 x hx).2.trans (o6 x hx).2⟩) hs6 fr9
    · rw [if_neg (by rw [h1]; decide)] at hs6
      rw [← hs6] at h1 h3 e9
      refine g_goto (tgt := 109) d_Mo_readRule_189 (by decide) ?_
      refine g_aload_n d_Mo_readRule_109 rfl ?_
      refine g_get f_Mo_67 (by assumption) rfl d_Mo_readRule_110 ?_
      refine g_ifN_ge (tgt := 192) d_Mo_readRule_113 (by decide) (by omega) (fun _ => ?_) (fun hb => hb.elim)
      refine g_aload_n d_Mo_readRule_192 rfl ?_
      refine g_dup d_Mo_readRule_193 rfl ?_
      refine g_get f_Mo_61 (by assumption) rfl d_Mo_readRule_194 ?_
      refine g_iconst (v := nI 1) d_Mo_readRule_197 (by decide) ?_
      refine g_iadd d_Mo_readRule_198 ?_
      refine g_eqi (nI_add _ _) ?_
      refine g_put p_Mo_61 (by assumption) (Nat.le_of_ble_eq_true rfl) rfl rfl d_Mo_readRule_199 ?_
      refine g_nm (fun M10 e10 f10 => ?_)
      exact g_return rfl (by omega) (by omega) d_Mo_readRule_202 ⟨_, rfl, rfl, rfl, ⟨_, _, _, _, _, _, by omega, e10, (f10 _ (by omega)).trans v9, (f10 _ (by omega)).trans l9, (f10 _ (by omega)).trans u9, Or.inr ⟨h1, rfl, h3⟩⟩, fun x x1 x2 x3 x4 => (f10 x x1).trans (fr9 x x1 x2 x3 x4)⟩
end MRULE

