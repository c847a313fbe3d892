/-! the model reads the values of a field -/
def o_vp (E : gE) (M' : gM) (W : Nat) (th : Int32) (n : Nat) (lk rc : Int32) (ts : Nat → Nat) (i : Nat) (fl fh : Nat → Int32) (s : sR) : Prop := ∃ (p' : Nat) (fa' : Int32) (fl' fh' : Nat → Int32), p' ≤ n ∧ M' W = some (.inr (10, mo W th (nI n) lk rc (nI p') fa')) ∧ M' (W + 11) = some (g_ia E 32 fl') ∧ M' (W + 12) = some (g_ia E 32 fh') ∧ ((s.1 = true ∧ fa' = -1 ∧ bh n ts p' 1 = s.2.1 ∧ (∀ g, g < 4 → fl' (4 * i + g) = nI (s.2.2.2.1 g) ∧ fh' (4 * i + g) = nI (s.2.2.2.2 g)) ∧ ∀ x, (x < 4 * i ∨ 4 * i + 4 ≤ x) → fl' x = fl x ∧ fh' x = fh x) ∨ (s.1 = false ∧ fa' = nI s.2.1 ∧ s.2.1 ≤ n))
theorem rows_up {fl fh : Nat → Int32} {i f a b : Nat} {z : Rl} (hf : f < 4) (hz : ∀ g, g < 4 → fl (4 * i + g) = nI (z.2.1 g) ∧ fh (4 * i + g) = nI (z.2.2 g)) : (∀ g, g < 4 → upd fl (4 * i + f) (nI a) (4 * i + g) = nI ((nrw z f a b).2.1 g) ∧ upd fh (4 * i + f) (nI b) (4 * i + g) = nI ((nrw z f a b).2.2 g)) ∧ ∀ x, (x < 4 * i ∨ 4 * i + 4 ≤ x) → upd fl (4 * i + f) (nI a) x = fl x ∧ upd fh (4 * i + f) (nI b) x = fh x := by
  refine ⟨fun g hg => ?_, fun x hx => ⟨pk_un (by omega), pk_un (by omega)⟩⟩
  by_cases e : g = f
  · subst e
    rw [pk_us, pk_us]
    show nI a = nI (va_up z.2.1 g a g) ∧ nI b = nI (va_up z.2.2 g b g)
    rw [va_up_self, va_up_self]
    exact ⟨rfl, rfl⟩
  · rw [pk_un (by omega), pk_un (by omega)]
    show _ = nI (va_up z.2.1 f a g) ∧ _ = nI (va_up z.2.2 f b g)
    rw [va_up_ne _ _ e, va_up_ne _ _ e]
    exact hz g hg
theorem upd_upd (g : Nat → Int32) (k : Nat) (v w : Int32) : upd (upd g k v) k w = upd g k w := by
  funext x
  by_cases e : x = k
  · subst e; rw [pk_us, pk_us]
  · rw [pk_un e, pk_un e, pk_un e]
theorem kd_wd {n : Nat} {ts : Nat → Nat} {a i : Nat} (h : kd n ts a ≠ 2) : ¬ wd n ts a i = true := fun q => by
  unfold wd at q
  rw [Bool.and_eq_true, decide_eq_true_iff] at q
  exact h q.1
theorem kd_nb {n : Nat} {ts : Nat → Nat} {a lo hi : Nat} (h : kd n ts a ≠ 3) : ¬ nb n ts a lo hi = true := fun q => by
  unfold nb at q
  rw [Bool.and_eq_true, decide_eq_true_iff] at q
  exact h q.1
theorem nb_le {n : Nat} {ts : Nat → Nat} {a lo hi : Nat} (h : nb n ts a lo hi = true) : lo ≤ nv n ts a ∧ nv n ts a ≤ hi := by
  unfold nb at h
  rw [Bool.and_eq_true, Bool.and_eq_true, Bool.and_eq_true, decide_eq_true_iff, decide_eq_true_iff, decide_eq_true_iff, decide_eq_true_iff] at h
  exact h.2.2
section MVALUES
variable {l : Launch} {E : gE} {N : Nat} {M : gM} {W n : Nat} {th lk rc fa : Int32} {ts : Nat → Nat} {fl fh : Nat → Int32} {z : Rl}
theorem k_Mo_values (p i f : Nat) (hp : p ≤ n) (hi : i < 8) (hf : f < 4) (h : M W = some (.inr (10, mo W th (nI n) lk rc (nI p) (-1)))) (hT : o_mt E M W n ts) (h11 : M (W + 11) = some (g_ia E 32 fl)) (h12 : M (W + 12) = some (g_ia E 32 fh)) (hz : ∀ g, g < 4 → fl (4 * i + g) = nI (z.2.1 g) ∧ fh (4 * i + g) = nI (z.2.2 g)) : Ctr l E y_Mo_values 3 [.ref W, .int (nI i), .int (nI f)] N M 0 0 (g_ret (fun v N' M' => v = none ∧ N' = N ∧ o_vp E M' W th n lk rc ts i fl fh (sRg n ts f (bh n ts p 1) z) ∧ ∀ x, x ≠ W → x ≠ W + 11 → x ≠ W + 12 → M' x = M x)) := by
  have hn := hT.1
  have ha := (bh_in n ts p 1).2 hp
  have hbb := bh_bh n ts p 1
  have hms := mst_lt f
  have hbt := bts_le f hf
  have hsp : spl 97 110 121 0 0 < 2 ^ 31 := by decide
  refine ctr_of [some (.ref W), some (.int (nI i)), some (.int (nI f)), none, none, none, none, none] (by decide) w_1021 rfl rfl (Nat.le_of_ble_eq_true rfl) (fun Γ => ?_)
  refine g_aload_n d_Mo_values_0 rfl ?_
  refine g_callV s_Mo_78 sv_Mo_blanks (by assumption) rfl (k_Mo_blanks p (by omega) h hT) (by omega) rfl (by omega) (by omega) rfl (Nat.le_of_ble_eq_true rfl) d_Mo_values_1 ?_
  rintro v' N' M1 ⟨rfl, rfl, e1, f1⟩
  generalize bh n ts p 1 = a at ha hbb e1 ⊢
  have hT1 := hT.kept (M' := M1) (f1 _ (by omega))
  have l1 := (f1 (W + 11) (by omega)).trans h11
  have u1 := (f1 (W + 12) (by omega)).trans h12
  obtain ⟨s, hs⟩ : ∃ s, s = sRg n ts f a z := ⟨_, rfl⟩
  rw [← hs]
  unfold sRg at hs
  have hl := sgt_lt hT1 a
  have hwl := wv_lt n ts a
  refine g_iconst (v := nI 4) d_Mo_values_4 (by decide) ?_
  refine g_iload_n d_Mo_values_5 rfl ?_
  refine g_imul d_Mo_values_6 ?_
  refine g_eqi (pk_mul _ _) ?_
  refine g_iload_n d_Mo_values_7 rfl ?_
  refine g_iadd d_Mo_values_8 ?_
  refine g_eqi (nI_add _ _) ?_
  refine g_istore_n d_Mo_values_9 (by decide) ?_
  refine g_aload_n d_Mo_values_10 rfl ?_
  refine g_get f_Mo_61 (by assumption) rfl d_Mo_values_11 ?_
  refine g_istore d_Mo_values_14 (by decide) ?_
  refine g_aload_n d_Mo_values_16 rfl ?_
  refine g_aload_n d_Mo_values_17 rfl ?_
  refine g_get f_Mo_61 (by assumption) rfl d_Mo_values_18 ?_
  refine g_callV s_Mo_64 sv_Mo_sign (by assumption) rfl (g_of_val (k_Mo_sign e1 hT1 a (by omega))) (by omega) rfl (by omega) (by omega) rfl (Nat.le_of_ble_eq_true rfl) d_Mo_values_21 ?_
  rintro _ _ _ ⟨rfl, rfl, rfl⟩
  refine g_callS s_Mo_70 sv_Mo_isLetter (g_of_val (k_Mo_isLetter _ hl)) (by omega) rfl (by omega) (by omega) rfl (Nat.le_of_ble_eq_true rfl) d_Mo_values_24 ?_
  rintro _ _ _ ⟨rfl, rfl, rfl⟩
  first | refine g_ifB_eq (tgt := 55) d_Mo_values_27 (by decide) (fun hb_27 => ?_) (fun hb_27 => ?_) | refine g_ifN_eq (tgt := 55) d_Mo_values_27 (by decide) (by omega) (fun hb_27 => ?_) (fun hb_27 => ?_)
  rotate_left
  · have hk := (sgt_2 n ts a).mp (of_decide_eq_true hb_27)
    have hte : tE n ts a = bh n ts a 2 := by unfold tE; rw [if_pos (Or.inl hk), hk]
    have hq := (bh_in n ts a 2).2 ha
    refine g_aload_n d_Mo_values_30 rfl ?_
    refine g_callV s_Mo_88 sv_Mo_word (by assumption) rfl (k_Mo_word a (by omega) e1 hT1) (by omega) rfl (by omega) (by omega) rfl (Nat.le_of_ble_eq_true rfl) d_Mo_values_31 ?_
    rintro v' N' M2 ⟨rfl, rfl, e2, f2⟩
    have l2 := (f2 (W + 11) (by omega)).trans l1
    have u2 := (f2 (W + 12) (by omega)).trans u1
    refine g_bipush (v := nI 97) d_Mo_values_34 (by decide) ?_
    refine g_bipush (v := nI 110) d_Mo_values_36 (by decide) ?_
    refine g_bipush (v := nI 121) d_Mo_values_38 (by decide) ?_
    refine g_iconst (v := nI 0) d_Mo_values_40 (by decide) ?_
    refine g_iconst (v := nI 0) d_Mo_values_41 (by decide) ?_
    refine g_callS s_Mo_74 sv_Mo_spell (g_of_val (k_Mo_spell 97 110 121 0 0 (by omega) (by omega) (by omega) (Or.inl rfl) (Or.inl rfl))) (by omega) rfl (by omega) (by omega) rfl (Nat.le_of_ble_eq_true rfl) d_Mo_values_42 ?_
    rintro _ _ _ ⟨rfl, rfl, rfl⟩
    refine g_icmpN_eq (tgt := 54) d_Mo_values_45 (by decide) (by omega) (by omega) (fun hb_45 => ?_) (fun hb_45 => ?_)
    · have hw : wd n ts a 10 = true := (wd_iff (by omega) (by omega)).mp (hb_45.trans spw_v.2.2.2.2.2.2.2.symm)
      rw [if_pos hw] at hs
      exact g_return rfl (by omega) (by omega) d_Mo_values_54 ⟨_, rfl, rfl, rfl, ⟨_, _, fl, fh, hq, e2, l2, u2, Or.inl ⟨by rw [hs], rfl, by rw [hs]; show _ = nx n ts a; unfold nx; rw [hte], by rw [hs]; exact hz, fun _ _ => ⟨rfl, rfl⟩⟩⟩, fun x x1 x2 x3 => (f2 x x1).trans (f1 x x1)⟩
    · have hw : ¬ wd n ts a 10 = true := fun q => hb_45 (((wd_iff (by omega) (by omega)).mpr q).trans spw_v.2.2.2.2.2.2.2)
      rw [if_neg hw, if_neg (kd_nb (by rw [hk]; decide))] at hs
      refine g_aload_n d_Mo_values_48 rfl ?_
      refine g_iload d_Mo_values_49 rfl ?_
      refine g_callV s_Mo_84 sv_Mo_bad (by assumption) rfl (k_Mo_bad e2 a) (by omega) rfl (by omega) (by omega) rfl (Nat.le_of_ble_eq_true rfl) d_Mo_values_51 ?_
      rintro v' N' M3 ⟨rfl, rfl, e3, f3⟩
      exact g_return rfl (by omega) (by omega) d_Mo_values_54 ⟨_, rfl, rfl, rfl, ⟨_, _, fl, fh, hq, e3, (f3 _ (by omega)).trans l2, (f3 _ (by omega)).trans u2, Or.inr ⟨by rw [hs], by rw [hs], by rw [hs]; exact ha⟩⟩, fun x x1 x2 x3 => (f3 x x1).trans ((f2 x x1).trans (f1 x x1))⟩
  have hk : kd n ts a ≠ 2 := fun q => absurd ((sgt_2 n ts a).mpr q) (of_decide_eq_false hb_27)
  rw [if_neg (kd_wd hk)] at hs
  have hnum := fun (N : Nat) => k_Mo_number (l := l) (N := N) a 0 (mst f) ha (by omega) (by omega) e1 hT1
  rw [hbb] at hnum
  refine g_aload_n d_Mo_values_55 rfl ?_
  refine g_iconst (v := nI 0) d_Mo_values_56 (by decide) ?_
  refine g_iload_n d_Mo_values_57 rfl ?_
  refine g_callS s_Mo_92 sv_Mo_most (g_of_val (k_Mo_most f hf)) (by omega) rfl (by omega) (by omega) rfl (Nat.le_of_ble_eq_true rfl) d_Mo_values_58 ?_
  rintro _ _ _ ⟨rfl, rfl, rfl⟩
  refine g_callV s_Mo_95 sv_Mo_number (by assumption) rfl (hnum _) (by omega) rfl (by omega) (by omega) rfl (Nat.le_of_ble_eq_true rfl) d_Mo_values_61 ?_
  rintro v' N' M2 ⟨⟨w, rfl, hw, hwv⟩, rfl, e2, f2⟩
  have hq := (bh_in n ts a 3).2 ha
  have l2 := (f2 (W + 11) (by omega)).trans l1
  have u2 := (f2 (W + 12) (by omega)).trans u1
  refine g_istore d_Mo_values_64 (by decide) ?_
  refine g_aload_n d_Mo_values_66 rfl ?_
  refine g_get f_Mo_40 (by assumption) rfl d_Mo_values_67 ?_
  refine g_iload_n d_Mo_values_70 rfl ?_
  refine g_iload d_Mo_values_71 rfl ?_
  refine g_iast _ (by assumption) rfl (by omega) (by decide) d_Mo_values_73 ?_
  refine g_nm (fun M3 l3 f3 => ?_)
  have e3 := (f3 W (by omega)).trans e2
  have u3 := (f3 (W + 12) (by omega)).trans u2
  refine g_aload_n d_Mo_values_74 rfl ?_
  refine g_get f_Mo_43 (by assumption) rfl d_Mo_values_75 ?_
  refine g_iload_n d_Mo_values_78 rfl ?_
  refine g_iload d_Mo_values_79 rfl ?_
  refine g_iast _ (by assumption) rfl (by omega) (by decide) d_Mo_values_81 ?_
  refine g_nm (fun M4 u4 f4 => ?_)
  have e4 := (f4 W (by omega)).trans e3
  have l4 := (f4 (W + 11) (by omega)).trans l3
  have hT4 : o_mt E M4 W n ts := hT1.kept ((f4 _ (by omega)).trans ((f3 _ (by omega)).trans (f2 _ (by omega))))
  refine g_aload_n d_Mo_values_82 rfl ?_
  refine g_callV s_Mo_78 sv_Mo_blanks (by assumption) rfl (k_Mo_blanks (bh n ts a 3) (by omega) e4 hT4) (by omega) rfl (by omega) (by omega) rfl (Nat.le_of_ble_eq_true rfl) d_Mo_values_83 ?_
  rintro v' N' M5 ⟨rfl, rfl, e5, f5⟩
  have l5 := (f5 (W + 11) (by omega)).trans l4
  have u5 := (f5 (W + 12) (by omega)).trans u4
  have hT5 := hT4.kept (M' := M5) (f5 _ (by omega))
  have hr := (bh_in n ts (bh n ts a 3) 1).2 hq
  have fr5 : ∀ x, x ≠ W → x ≠ W + 11 → x ≠ W + 12 → M5 x = M x := fun x x1 x2 x3 => (f5 x x1).trans ((f4 x x3).trans ((f3 x x2).trans ((f2 x x1).trans (f1 x x1))))
  by_cases hA : nb n ts a 0 (mst f) = true
  rotate_left
  · rw [if_neg hA] at hs e5
    generalize bh n ts (bh n ts a 3) 1 = r at hr e5
    have hl5 := sgt_lt hT5 r
    refine g_aload_n d_Mo_values_86 rfl ?_
    refine g_aload_n d_Mo_values_87 rfl ?_
    refine g_get f_Mo_61 (by assumption) rfl d_Mo_values_88 ?_
    refine g_callV s_Mo_64 sv_Mo_sign (by assumption) rfl (g_of_val (k_Mo_sign e5 hT5 r (by omega))) (by omega) rfl (by omega) (by omega) rfl (Nat.le_of_ble_eq_true rfl) d_Mo_values_91 ?_
    rintro _ _ _ ⟨rfl, rfl, rfl⟩
    refine g_bipush (v := nI 45) d_Mo_values_94 (by decide) ?_
    refine g_icmpN_ne (tgt := 135) d_Mo_values_96 (by decide) (by omega) (by omega) (fun hb_96 => ?_) (fun hb_96 => ?_)
    · refine g_aload_n d_Mo_values_135 rfl ?_
      refine g_aload_n d_Mo_values_136 rfl ?_
      refine g_get f_Mo_61 (by assumption) rfl d_Mo_values_137 ?_
      refine g_callV s_Mo_64 sv_Mo_sign (by assumption) rfl (g_of_val (k_Mo_sign e5 hT5 r (by omega))) (by omega) rfl (by omega) (by omega) rfl (Nat.le_of_ble_eq_true rfl) d_Mo_values_140 ?_
      rintro _ _ _ ⟨rfl, rfl, rfl⟩
      refine g_bipush (v := nI 47) d_Mo_values_143 (by decide) ?_
      refine g_icmpN_ne (tgt := 229) d_Mo_values_145 (by decide) (by omega) (by omega) (fun hb_145 => ?_) (fun hb_145 => ?_)
      · exact g_return rfl (by omega) (by omega) d_Mo_values_229 ⟨_, rfl, rfl, rfl, ⟨_, _, _, _, hr, e5, l5, u5, Or.inr ⟨by rw [hs], by rw [hs], by rw [hs]; exact ha⟩⟩, fr5⟩
      · refine g_aload_n d_Mo_values_148 rfl ?_
        refine g_get f_Mo_67 (by assumption) rfl d_Mo_values_149 ?_
        refine g_ifN_ge (tgt := 229) d_Mo_values_152 (by decide) (by omega) (fun _ => ?_) (fun hb => hb.elim)
        exact g_return rfl (by omega) (by omega) d_Mo_values_229 ⟨_, rfl, rfl, rfl, ⟨_, _, _, _, hr, e5, l5, u5, Or.inr ⟨by rw [hs], by rw [hs], by rw [hs]; exact ha⟩⟩, fr5⟩
    · refine g_aload_n d_Mo_values_99 rfl ?_
      refine g_get f_Mo_67 (by assumption) rfl d_Mo_values_100 ?_
      refine g_ifN_ge (tgt := 135) d_Mo_values_103 (by decide) (by omega) (fun _ => ?_) (fun hb => hb.elim)
      refine g_aload_n d_Mo_values_135 rfl ?_
      refine g_aload_n d_Mo_values_136 rfl ?_
      refine g_get f_Mo_61 (by assumption) rfl d_Mo_values_137 ?_
      refine g_callV s_Mo_64 sv_Mo_sign (by assumption) rfl (g_of_val (k_Mo_sign e5 hT5 r (by omega))) (by omega) rfl (by omega) (by omega) rfl (Nat.le_of_ble_eq_true rfl) d_Mo_values_140 ?_
      rintro _ _ _ ⟨rfl, rfl, rfl⟩
      refine g_bipush (v := nI 47) d_Mo_values_143 (by decide) ?_
      refine g_icmpN_ne (tgt := 229) d_Mo_values_145 (by decide) (by omega) (by omega) (fun hb_145 => ?_) (fun hb_145 => ?_)
      · exact g_return rfl (by omega) (by omega) d_Mo_values_229 ⟨_, rfl, rfl, rfl, ⟨_, _, _, _, hr, e5, l5, u5, Or.inr ⟨by rw [hs], by rw [hs], by rw [hs]; exact ha⟩⟩, fr5⟩
      · refine g_aload_n d_Mo_values_148 rfl ?_
        refine g_get f_Mo_67 (by assumption) rfl d_Mo_values_149 ?_
        refine g_ifN_ge (tgt := 229) d_Mo_values_152 (by decide) (by omega) (fun _ => ?_) (fun hb => hb.elim)
        exact g_return rfl (by omega) (by omega) d_Mo_values_229 ⟨_, rfl, rfl, rfl, ⟨_, _, _, _, hr, e5, l5, u5, Or.inr ⟨by rw [hs], by rw [hs], by rw [hs]; exact ha⟩⟩, fr5⟩
  rw [if_pos hA] at hs e5
  have ev := hwv hA
  obtain ⟨-, hte⟩ := nb_val hA
  have hnle := nb_le hA
  rw [← ev] at hs hnle
  have hnx : bh n ts (bh n ts a 3) 1 = nx n ts a := by unfold nx; rw [hte]
  rw [hnx] at e5 hr
  have hnb2 := bh_bh n ts (bh n ts a 3) 1
  rw [hnx] at hnb2
  generalize nx n ts a = r at hs e5 hr hnb2
  have hl5 := sgt_lt hT5 r
  refine g_aload_n d_Mo_values_86 rfl ?_
  refine g_aload_n d_Mo_values_87 rfl ?_
  refine g_get f_Mo_61 (by assumption) rfl d_Mo_values_88 ?_
  refine g_callV s_Mo_64 sv_Mo_sign (by assumption) rfl (g_of_val (k_Mo_sign e5 hT5 r (by omega))) (by omega) rfl (by omega) (by omega) rfl (Nat.le_of_ble_eq_true rfl) d_Mo_values_91 ?_
  rintro _ _ _ ⟨rfl, rfl, rfl⟩
  refine g_bipush (v := nI 45) d_Mo_values_94 (by decide) ?_
  refine g_icmpN_ne (tgt := 135) d_Mo_values_96 (by decide) (by omega) (by omega) (fun hb_96 => ?_) (fun hb_96 => ?_)
  rotate_left
  · have hsg := (sgt_c n ts r (c := 45) (by omega)).mp hb_96
    rw [if_pos hsg] at hs
    obtain ⟨hrn, hte2⟩ := sg_lt hsg
    refine g_aload_n d_Mo_values_99 rfl ?_
    refine g_get f_Mo_67 (by assumption) rfl d_Mo_values_100 ?_
    refine g_if_ge (tgt := 135) d_Mo_values_103 (by decide) (fun hb => absurd hb (by decide)) (fun _ => ?_)
    refine g_aload_n d_Mo_values_106 rfl ?_
    refine g_dup d_Mo_values_107 rfl ?_
    refine g_get f_Mo_61 (by assumption) rfl d_Mo_values_108 ?_
    refine g_iconst (v := nI 1) d_Mo_values_111 (by decide) ?_
    refine g_iadd d_Mo_values_112 ?_
    refine g_eqi (nI_add _ _) ?_
    refine g_put p_Mo_61 (by assumption) (Nat.le_of_ble_eq_true rfl) rfl rfl d_Mo_values_113 ?_
    refine g_nm (fun M6 e6 f6 => ?_)
    have hT6 := hT5.kept (M' := M6) (f6 _ (by omega))
    have l6 := (f6 (W + 11) (by omega)).trans l5
    have u6 := (f6 (W + 12) (by omega)).trans u5
    have hnum2 := fun (N : Nat) => k_Mo_number (l := l) (N := N) (r + 1) w (mst f) (by omega) (by omega) (by omega) e6 hT6
    rw [show bh n ts (r + 1) 1 = nx n ts r by unfold nx; rw [hte2]] at hnum2
    have hb2 := nx_le (ts := ts) hr
    refine g_aload_n d_Mo_values_116 rfl ?_
    refine g_get f_Mo_43 (by assumption) rfl d_Mo_values_117 ?_
    refine g_iload_n d_Mo_values_120 rfl ?_
    refine g_aload_n d_Mo_values_121 rfl ?_
    refine g_iload d_Mo_values_122 rfl ?_
    refine g_iload_n d_Mo_values_124 rfl ?_
    refine g_callS s_Mo_92 sv_Mo_most (g_of_val (k_Mo_most f hf)) (by omega) rfl (by omega) (by omega) rfl (Nat.le_of_ble_eq_true rfl) d_Mo_values_125 ?_
    rintro _ _ _ ⟨rfl, rfl, rfl⟩
    refine g_callV s_Mo_95 sv_Mo_number (by assumption) rfl (hnum2 _) (by omega) rfl (by omega) (by omega) rfl (Nat.le_of_ble_eq_true rfl) d_Mo_values_128 ?_
    rintro v' N' M7 ⟨⟨w2, rfl, hw2, hwv2⟩, rfl, e7, f7⟩
    have u7 := (f7 (W + 12) (by omega)).trans u6
    have l7 := (f7 (W + 11) (by omega)).trans l6
    have hq2 := (bh_in n ts (nx n ts r) 3).2 hb2
    refine g_iast _ (by assumption) rfl (by omega) (by decide) d_Mo_values_131 ?_
    refine g_nm (fun M8 u8 f8 => ?_)
    have e8 := (f8 W (by omega)).trans e7
    have l8 := (f8 (W + 11) (by omega)).trans l7
    have fr8 : ∀ x, x ≠ W → x ≠ W + 11 → x ≠ W + 12 → M8 x = M x := fun x x1 x2 x3 => (f8 x x3).trans ((f7 x x1).trans ((f6 x x1).trans (fr5 x x1 x2 x3)))
    unfold sGr at hs
    rw [upd_upd] at u8
    by_cases hB : nb n ts (nx n ts r) w (mst f) = true
    · rw [if_pos hB] at hs e8
      rw [hwv2 hB] at u8
      obtain ⟨-, hte3⟩ := nb_val hB
      have hru := rows_up (a := w) (b := nv n ts (nx n ts r)) hf hz
      refine g_goto (tgt := 229) d_Mo_values_132 (by decide) ?_
      exact g_return rfl (by omega) (by omega) d_Mo_values_229 ⟨_, rfl, rfl, rfl, ⟨_, _, _, _, hq2, e8, l8, u8, Or.inl ⟨by rw [hs], rfl, by rw [hs, hte3]; rfl, by rw [hs]; exact hru.1, hru.2⟩⟩, fr8⟩
    · rw [if_neg hB] at hs e8
      refine g_goto (tgt := 229) d_Mo_values_132 (by decide) ?_
      exact g_return rfl (by omega) (by omega) d_Mo_values_229 ⟨_, rfl, rfl, rfl, ⟨_, _, _, _, hq2, e8, l8, u8, Or.inr ⟨by rw [hs], by rw [hs], by rw [hs]; exact hb2⟩⟩, fr8⟩
  have hs45 : ¬ sg n ts r 45 = true := fun q => hb_96 ((sgt_c n ts r (c := 45) (by omega)).mpr q)
  rw [if_neg hs45] at hs
  refine g_aload_n d_Mo_values_135 rfl ?_
  refine g_aload_n d_Mo_values_136 rfl ?_
  refine g_get f_Mo_61 (by assumption) rfl d_Mo_values_137 ?_
  refine g_callV s_Mo_64 sv_Mo_sign (by assumption) rfl (g_of_val (k_Mo_sign e5 hT5 r (by omega))) (by omega) rfl (by omega) (by omega) rfl (Nat.le_of_ble_eq_true rfl) d_Mo_values_140 ?_
  rintro _ _ _ ⟨rfl, rfl, rfl⟩
  refine g_bipush (v := nI 47) d_Mo_values_143 (by decide) ?_
  refine g_icmpN_ne (tgt := 229) d_Mo_values_145 (by decide) (by omega) (by omega) (fun hb_145 => ?_) (fun hb_145 => ?_)
  · have hs47 : ¬ sg n ts r 47 = true := fun q => hb_145 ((sgt_c n ts r (c := 47) (by omega)).mpr q)
    rw [if_neg hs47] at hs
    have hru := rows_up (a := w) (b := w) hf hz
    exact g_return rfl (by omega) (by omega) d_Mo_values_229 ⟨_, rfl, rfl, rfl, ⟨_, _, _, _, hr, e5, l5, u5, Or.inl ⟨by rw [hs], rfl, by rw [hs]; exact hnb2, by rw [hs]; exact hru.1, hru.2⟩⟩, fr5⟩
  have hsg := (sgt_c n ts r (c := 47) (by omega)).mp hb_145
  rw [if_pos hsg] at hs
  obtain ⟨hrn, hte2⟩ := sg_lt hsg
  refine g_aload_n d_Mo_values_148 rfl ?_
  refine g_get f_Mo_67 (by assumption) rfl d_Mo_values_149 ?_
  refine g_if_ge (tgt := 229) d_Mo_values_152 (by decide) (fun hb => absurd hb (by decide)) (fun _ => ?_)
  refine g_aload_n d_Mo_values_155 rfl ?_
  refine g_dup d_Mo_values_156 rfl ?_
  refine g_get f_Mo_61 (by assumption) rfl d_Mo_values_157 ?_
  refine g_iconst (v := nI 1) d_Mo_values_160 (by decide) ?_
  refine g_iadd d_Mo_values_161 ?_
  refine g_eqi (nI_add _ _) ?_
  refine g_put p_Mo_61 (by assumption) (Nat.le_of_ble_eq_true rfl) rfl rfl d_Mo_values_162 ?_
  refine g_nm (fun M6 e6 f6 => ?_)
  have hT6 := hT5.kept (M' := M6) (f6 _ (by omega))
  have l6 := (f6 (W + 11) (by omega)).trans l5
  have u6 := (f6 (W + 12) (by omega)).trans u5
  have hnum2 := fun (N : Nat) => k_Mo_number (l := l) (N := N) (r + 1) 0 (bts f) (by omega) (by omega) (by omega) e6 hT6
  rw [show bh n ts (r + 1) 1 = nx n ts r by unfold nx; rw [hte2]] at hnum2
  have hb2 := nx_le (ts := ts) hr
  refine g_aload_n d_Mo_values_165 rfl ?_
  refine g_iconst (v := nI 0) d_Mo_values_166 (by decide) ?_
  refine g_iload_n d_Mo_values_167 rfl ?_
  refine g_callS s_Mo_50 sv_Mo_bits (g_of_val (k_Mo_bits f hf)) (by omega) rfl (by omega) (by omega) rfl (Nat.le_of_ble_eq_true rfl) d_Mo_values_168 ?_
  rintro _ _ _ ⟨rfl, rfl, rfl⟩
  refine g_callV s_Mo_95 sv_Mo_number (by assumption) rfl (hnum2 _) (by omega) rfl (by omega) (by omega) rfl (Nat.le_of_ble_eq_true rfl) d_Mo_values_171 ?_
  rintro v' N' M7 ⟨⟨w2, rfl, hw2, hwv2⟩, rfl, e7, f7⟩
  have u7 := (f7 (W + 12) (by omega)).trans u6
  have l7 := (f7 (W + 11) (by omega)).trans l6
  have hq2 := (bh_in n ts (nx n ts r) 3).2 hb2
  unfold sHb at hs
  by_cases hB : nb n ts (nx n ts r) 0 (bts f) = true
  · rw [if_pos hB] at hs e7
    obtain ⟨-, hte3⟩ := nb_val hB
    have hle2 := nb_le hB
    rw [← hwv2 hB] at hs hle2
    have hpw : 2 ^ (bts f - w2) ≤ 2 ^ 10 := Nat.pow_le_pow_right (by omega) (by omega)
    have hpp := Nat.two_pow_pos (bts f - w2)
    have hdm : w / 2 ^ (bts f - w2) * 2 ^ (bts f - w2) ≤ w := Nat.div_mul_le_self _ _
    refine g_istore d_Mo_values_174 (by decide) ?_
    refine g_iload_n d_Mo_values_176 rfl ?_
    refine g_callS s_Mo_50 sv_Mo_bits (g_of_val (k_Mo_bits f hf)) (by omega) rfl (by omega) (by omega) rfl (Nat.le_of_ble_eq_true rfl) d_Mo_values_177 ?_
    rintro _ _ _ ⟨rfl, rfl, rfl⟩
    refine g_aload_n d_Mo_values_180 rfl ?_
    refine g_get f_Mo_67 (by assumption) rfl d_Mo_values_181 ?_
    refine g_if_ge (tgt := 192) d_Mo_values_184 (by decide) (fun hb => absurd hb (by decide)) (fun _ => ?_)
    refine g_iload d_Mo_values_187 rfl ?_
    refine g_goto (tgt := 193) d_Mo_values_189 (by decide) ?_
    refine g_isub d_Mo_values_193 ?_
    refine g_eqi (z := nI (bts f - w2)) (pk_sub (by omega)) ?_
    refine g_istore d_Mo_values_194 (by decide) ?_
    refine g_aload_n d_Mo_values_196 rfl ?_
    refine g_get f_Mo_40 (by assumption) rfl d_Mo_values_197 ?_
    refine g_iload_n d_Mo_values_200 rfl ?_
    refine g_iload d_Mo_values_201 rfl ?_
    refine g_iload d_Mo_values_203 rfl ?_
    refine g_ishr d_Mo_values_205 ?_
    refine g_eqi (nI_shr (by omega) (by omega)) ?_
    refine g_iload d_Mo_values_206 rfl ?_
    refine g_ishl d_Mo_values_208 ?_
    refine g_eqi (nI_shl (by omega) (by omega)) ?_
    refine g_iast _ (by assumption) rfl (by omega) (by decide) d_Mo_values_209 ?_
    refine g_nm (fun M8 l8 f8 => ?_)
    have e8 := (f8 W (by omega)).trans e7
    have u8 := (f8 (W + 12) (by omega)).trans u7
    rw [upd_upd] at l8
    refine g_aload_n d_Mo_values_210 rfl ?_
    refine g_get f_Mo_43 (by assumption) rfl d_Mo_values_211 ?_
    refine g_iload_n d_Mo_values_214 rfl ?_
    refine g_aload_n d_Mo_values_215 rfl ?_
    refine g_get f_Mo_40 (by assumption) rfl d_Mo_values_216 ?_
    refine g_iload_n d_Mo_values_219 rfl ?_
    refine g_iald _ (by assumption) rfl (by omega) (by decide) d_Mo_values_220 ?_
    refine g_eqi (z := nI (w / 2 ^ (bts f - w2) * 2 ^ (bts f - w2))) pk_us ?_
    refine g_iconst (v := nI 1) d_Mo_values_221 (by decide) ?_
    refine g_iload d_Mo_values_222 rfl ?_
    refine g_ishl d_Mo_values_224 ?_
    refine g_eqi (z := nI (2 ^ (bts f - w2))) (nI_bit (by omega)) ?_
    refine g_iadd d_Mo_values_225 ?_
    refine g_eqi (nI_add _ _) ?_
    refine g_iconst (v := nI 1) d_Mo_values_226 (by decide) ?_
    refine g_isub d_Mo_values_227 ?_
    refine g_eqi (pk_sub (by omega)) ?_
    refine g_iast _ (by assumption) rfl (by omega) (by decide) d_Mo_values_228 ?_
    refine g_nm (fun M9 u9 f9 => ?_)
    rw [upd_upd] at u9
    have e9 := (f9 W (by omega)).trans e8
    have l9 := (f9 (W + 11) (by omega)).trans l8
    have hru := rows_up (a := hlo f w w2) (b := hhi f w w2) hf hz
    have fr9 : ∀ x, x ≠ W → x ≠ W + 11 → x ≠ W + 12 → M9 x = M x := fun x x1 x2 x3 => (f9 x x3).trans ((f8 x x2).trans ((f7 x x1).trans ((f6 x x1).trans (fr5 x x1 x2 x3))))
    exact g_return rfl (by omega) (by omega) d_Mo_values_229 ⟨_, rfl, rfl, rfl, ⟨_, _, _, _, hq2, e9, l9, u9, Or.inl ⟨by rw [hs], rfl, by rw [hs, hte3]; rfl, by rw [hs]; exact hru.1, hru.2⟩⟩, fr9⟩
  · rw [if_neg hB] at hs e7
    refine g_istore d_Mo_values_174 (by decide) ?_
    refine g_iload_n d_Mo_values_176 rfl ?_
    refine g_callS s_Mo_50 sv_Mo_bits (g_of_val (k_Mo_bits f hf)) (by omega) rfl (by omega) (by omega) rfl (Nat.le_of_ble_eq_true rfl) d_Mo_values_177 ?_
    rintro _ _ _ ⟨rfl, rfl, rfl⟩
    refine g_aload_n d_Mo_values_180 rfl ?_
    refine g_get f_Mo_67 (by assumption) rfl d_Mo_values_181 ?_
    refine g_ifN_ge (tgt := 192) d_Mo_values_184 (by decide) (by omega) (fun _ => ?_) (fun hb => hb.elim)
    refine g_iconst (v := nI 0) d_Mo_values_192 (by decide) ?_
    refine g_isub d_Mo_values_193 ?_
    refine g_istore d_Mo_values_194 (by decide) ?_
    refine g_aload_n d_Mo_values_196 rfl ?_
    refine g_get f_Mo_40 (by assumption) rfl d_Mo_values_197 ?_
    refine g_iload_n d_Mo_values_200 rfl ?_
    refine g_iload d_Mo_values_201 rfl ?_
    refine g_iload d_Mo_values_203 rfl ?_
    refine g_ishr d_Mo_values_205 ?_
    refine g_iload d_Mo_values_206 rfl ?_
    refine g_ishl d_Mo_values_208 ?_
    refine g_iast _ (by assumption) rfl (by omega) (by decide) d_Mo_values_209 ?_
    refine g_nm (fun M8 l8 f8 => ?_)
    have e8 := (f8 W (by omega)).trans e7
    have u8 := (f8 (W + 12) (by omega)).trans u7
    refine g_aload_n d_Mo_values_210 rfl ?_
    refine g_get f_Mo_43 (by assumption) rfl d_Mo_values_211 ?_
    refine g_iload_n d_Mo_values_214 rfl ?_
    refine g_aload_n d_Mo_values_215 rfl ?_
    refine g_get f_Mo_40 (by assumption) rfl d_Mo_values_216 ?_
    refine g_iload_n d_Mo_values_219 rfl ?_
    refine g_iald _ (by assumption) rfl (by omega) (by decide) d_Mo_values_220 ?_
    refine g_iconst (v := nI 1) d_Mo_values_221 (by decide) ?_
    refine g_iload d_Mo_values_222 rfl ?_
    refine g_ishl d_Mo_values_224 ?_
    refine g_iadd d_Mo_values_225 ?_
    refine g_iconst (v := nI 1) d_Mo_values_226 (by decide) ?_
    refine g_isub d_Mo_values_227 ?_
    refine g_iast _ (by assumption) rfl (by omega) (by decide) d_Mo_values_228 ?_
    refine g_nm (fun M9 u9 f9 => ?_)
    have e9 := (f9 W (by omega)).trans e8
    have l9 := (f9 (W + 11) (by omega)).trans l8
    have fr9 : ∀ x, x ≠ W → x ≠ W + 11 → x ≠ W + 12 → M9 x = M x := fun x x1 x2 x3 => (f9 x x3).trans ((f8 x x2).trans ((f7 x x1).trans ((f6 x x1).trans (fr5 x x1 x2 x3))))
    exact g_return rfl (by omega) (by omega) d_Mo_values_229 ⟨_, rfl, rfl, rfl, ⟨_, _, _, _, hq2, e9, l9, u9, Or.inr ⟨by rw [hs], by rw [hs], by rw [hs]; exact hb2⟩⟩, fr9⟩
end MVALUES

