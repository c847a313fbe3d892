/-! the model's cuts by the bounds of lists -/
/-- the bounds of a list's first m rules start rows -/
def hsb (rs : Nat → Rl) (m f n : Nat) (st : Nat → Nat) : Prop := ∀ i, i < m → has n st (mst f + 1) ((rs i).2.1 f) ∧ has n st (mst f + 1) ((rs i).2.2 f + 1)
theorem hsb.cin {rs : Nat → Rl} {m f n : Nat} {st : Nat → Nat} (h : hsb rs m f n st) (v : Nat) : hsb rs m f (cin1 n st v (mst f + 1)) (cin2 n st v (mst f + 1)) := fun i hi => ⟨has_cin v (h i hi).1, has_cin v (h i hi).2⟩
theorem cin_first (st : Nat → Nat) (t : Nat) : cin1 0 st 0 (t + 1) = 1 ∧ cin2 0 st 0 (t + 1) 0 = 0 := by
  have e : rk st 0 0 0 = 0 := rk_at (by omega) (fun k hk => by omega) (fun h => by omega)
  unfold cin1 cin2
  rw [e, if_neg (by omega), if_neg (by omega)]
  exact ⟨rfl, rfl⟩
theorem cin_all {st : Nat → Nat} {v t : Nat} (h : ∀ k, k < v → st k = k) (hv : v < t) : cin1 v st v t = v + 1 ∧ ∀ k, k < v + 1 → cin2 v st v t k = k := by
  have e : rk st v v v = v := rk_at (by omega) (fun k hk => by rw [h k hk]; exact hk) (fun h => by omega)
  unfold cin1 cin2
  rw [e, if_neg (by omega), if_neg (by omega)]
  refine ⟨rfl, fun k hk => ?_⟩
  show (if k < v then st k else if k = v then v else st (k - 1)) = k
  by_cases c : k < v
  · rw [if_pos c, h k c]
  · rw [if_neg c, if_pos (by omega)]; omega
def sml (mm : Nat → Nat) (a j : Nat) : Nat := sm (fun t => if a ≤ t then mm t else 0) j
def gdc (mm : Nat → Nat) (rr : Nat → Nat → Rl) (a b : Nat) (cn : Nat → Nat) (cs : Nat → Nat → Nat) (g : Nat) : Prop := (g < 3 → rows_ok (cs g) (cn g) (mst g + 1) ∧ (∀ j, a ≤ j → j ≤ b → hsb (rr j) (mm j) g (cn g) (cs g)) ∧ cn g ≤ 1 + 2 * sml mm a (b + 1)) ∧ (g = 3 → cn 3 = 4 ∧ ∀ k, k < 4 → cs 3 k = k)
theorem gdc.up {mm : Nat → Nat} {rr : Nat → Nat → Rl} {a b : Nat} {cn : Nat → Nat} {cs : Nat → Nat → Nat} {g f n : Nat} {st : Nat → Nat} (h : gdc mm rr a b cn cs g) (hgf : g < f) (hf : f < 4) : gdc mm rr a b (va_up cn f n) (va_up cs f st) g := by
  refine ⟨fun hg => ?_, fun hg => by omega⟩
  rw [va_up_ne _ _ (by omega), va_up_ne _ _ (by omega)]
  exact h.1 hg
section MCUTBY
variable {l : Launch} {E : gE} {N : Nat} {M : gM} {W tn : Nat} {th sz lk rc pl fa : Int32} {cn mm : Nat → Nat} {cs : Nat → Nat → Nat} {rr : Nat → Nat → Rl}
theorem k_Mo_cutBy (h : M W = some (.inr (10, mo W th sz lk rc pl fa))) (hL : o_ml E M W mm rr) (hC : o_cu E M W cn cs) (a b : Nat) (hab : a ≤ b) (hb : b < 2) : Ctr l E y_Mo_cutBy 3 [.ref W, .int (nI a), .int (nI b)] N M 0 0 (g_ret (fun v N' M' => v = none ∧ N' = N ∧ (∃ cn' cs', o_cu E M' W cn' cs' ∧ ∀ g, g < 4 → gdc mm rr a b cn' cs' g) ∧ ∀ x, x ≠ W + 7 → x ≠ W + 8 → M' x = M x)) := by
  have hL0 := hL
  obtain ⟨h1, -, ⟨fl, b1, b2⟩, ⟨fh, c1, c2⟩, fc, d1, d2⟩ := hL
  have hsum : ∀ j, j ≤ 2 → sml mm a j ≤ 8 * j := by
    intro j
    induction j with
    | zero => intro _; exact Nat.le_refl _
    | succ j ih =>
      intro hj
      have e : sml mm a (j + 1) = sml mm a j + (if a ≤ j then mm j else 0) := rfl
      have := ih (by omega)
      have := (h1 j (by omega)).1
      rw [e]
      split <;> omega
  refine ctr_of [some (.ref W), some (.int (nI a)), some (.int (nI b)), none, none, none] (by decide) w_1092 rfl rfl (Nat.le_of_ble_eq_true rfl) (fun Γ => ?_)
  refine g_iconst (v := nI 0) d_Mo_cutBy_0 (by decide) ?_
  refine g_istore_n d_Mo_cutBy_1 (by decide) ?_
  refine g_for (P := fun f => ∀ (M2 : gM) (cn2 : Nat → Nat) (cs2 : Nat → Nat → Nat) (y z : Option Value), o_cu E M2 W cn2 cs2 → (∀ g, g < f → gdc mm rr a b cn2 cs2 g) → (∀ x, x ≠ W + 7 → x ≠ W + 8 → M2 x = M x) → G _ _ _ _ _ _ _ _ _ _ _ _ 2 [some (.ref W), some (.int (nI a)), some (.int (nI b)), some (.int (nI f)), y, z] [] N M2 0 0) (e := 4) ?_ ?_ 0 (by omega) M cn cs none none hC (fun g hg => by omega) (fun _ _ _ => rfl)
  · intro M2 cn2 cs2 y z hC2 hg2 hf2
    refine g_iload_n d_Mo_cutBy_2 rfl ?_
    refine g_iconst (v := nI 4) d_Mo_cutBy_3 (by decide) ?_
    refine g_icmpN_ge (tgt := 140) d_Mo_cutBy_4 (by decide) (by omega) (by omega) (fun hb_4 => ?_) (fun hb_4 => ?_)
    · exact g_return rfl (by omega) (by omega) d_Mo_cutBy_140 ⟨_, rfl, rfl, rfl, ⟨cn2, cs2, hC2, hg2⟩, hf2⟩
    · omega
  · intro f hf ih M2 cn2 cs2 y z hC2 hg2 hf2
    have g2 := (hf2 W (by omega) (by omega)).trans h
    obtain ⟨⟨fm, m1, m2⟩, fq, q1, q2⟩ := hC2
    refine g_iload_n d_Mo_cutBy_2 rfl ?_
    refine g_iconst (v := nI 4) d_Mo_cutBy_3 (by decide) ?_
    refine g_icmpN_ge (tgt := 140) d_Mo_cutBy_4 (by decide) (by omega) (by omega) (fun hb_4 => ?_) (fun hb_4 => ?_)
    · omega
    refine g_aload_n d_Mo_cutBy_7 rfl ?_
    refine g_get f_Mo_31 (by assumption) rfl d_Mo_cutBy_8 ?_
    refine g_iload_n d_Mo_cutBy_11 rfl ?_
    refine g_iconst (v := nI 0) d_Mo_cutBy_12 (by decide) ?_
    refine g_iast _ (by assumption) rfl (by omega) (by decide) d_Mo_cutBy_13 ?_
    refine g_nm (fun M3 e3 f3 => ?_)
    have g3 := (f3 W (by omega)).trans g2
    have hC3 : o_cu E M3 W (va_up cn2 f 0) cs2 := by
      refine ⟨⟨_, e3, fun g hg => ?_⟩, fq, (f3 _ (by omega)).trans q1, fun g k hg hk => ?_⟩
      · by_cases e : g = f
        · subst e; rw [pk_us, va_up_self]; exact ⟨rfl, by omega⟩
        · rw [pk_un e, va_up_ne _ _ e]; exact m2 g hg
      · by_cases e : g = f
        · subst e; rw [va_up_self] at hk; omega
        · rw [va_up_ne _ _ e] at hk; exact q2 g k hg hk
    refine g_aload_n d_Mo_cutBy_14 rfl ?_
    refine g_iload_n d_Mo_cutBy_15 rfl ?_
    refine g_iconst (v := nI 0) d_Mo_cutBy_16 (by decide) ?_
    refine g_callV s_Mo_147 sv_Mo_addCut (by assumption) rfl (k_Mo_addCut g3 hC3 f 0 hf (by omega) (by rw [va_up_self]; omega)) (by omega) rfl (by omega) (by omega) rfl (Nat.le_of_ble_eq_true rfl) d_Mo_cutBy_17 ?_
    rintro v' N' M4 ⟨rfl, rfl, hC4, f4⟩
    rw [va_up_self, va_up2] at hC4
    obtain ⟨n1, n2⟩ := cin_first (cs2 f) (mst f)
    rw [n1] at hC4
    generalize cin2 0 (cs2 f) 0 (mst f + 1) = st at hC4 n2
    have g4 := (f4 W (by omega) (by omega)).trans g3
    have hf4 : ∀ x, x ≠ W + 7 → x ≠ W + 8 → M4 x = M x := fun x x1 x2 => (f4 x x1 x2).trans ((f3 x x2).trans (hf2 x x1 x2))
    refine g_iconst (v := nI 1) d_Mo_cutBy_20 (by decide) ?_
    refine g_istore d_Mo_cutBy_21 (by decide) ?_
    by_cases h3 : f = 3
    · subst h3
      refine g_for (P := fun v => 1 ≤ v → ∀ (M5 : gM) (s5 : Nat → Nat), o_cu E M5 W (va_up cn2 3 v) (va_up cs2 3 s5) → (∀ k, k < v → s5 k = k) → (∀ x, x ≠ W + 7 → x ≠ W + 8 → M5 x = M x) → G _ _ _ _ _ _ _ _ _ _ _ _ 23 [some (.ref W), some (.int (nI a)), some (.int (nI b)), some (.int (nI 3)), some (.int (nI v)), z] [] _ M5 0 0) (e := 4) ?_ ?_ 1 (by omega) (by omega) M4 st hC4 (fun k hk => by rw [show k = 0 by omega]; exact n2) hf4
      · intro _ M5 s5 hC5 h5 hf5
        refine g_iload d_Mo_cutBy_23 rfl ?_
        refine g_iconst (v := nI 4) d_Mo_cutBy_25 (by decide) ?_
        refine g_icmpN_ge (tgt := 47) d_Mo_cutBy_26 (by decide) (by omega) (by omega) (fun hb_26 => ?_) (fun hb_26 => ?_)
        · refine g_iload_n d_Mo_cutBy_47 rfl ?_
          refine g_istore d_Mo_cutBy_48 (by decide) ?_
          refine g_iload d_Mo_cutBy_50 rfl ?_
          refine g_iload_n d_Mo_cutBy_52 rfl ?_
          refine g_icmpN_gt (tgt := 134) d_Mo_cutBy_53 (by decide) (by omega) (by omega) (fun hb_53 => ?_) (fun hb_53 => ?_)
          · omega
          refine g_iload_n d_Mo_cutBy_56 rfl ?_
          refine g_iconst (v := nI 3) d_Mo_cutBy_57 (by decide) ?_
          refine g_icmpN_ge (tgt := 134) d_Mo_cutBy_58 (by decide) (by omega) (by omega) (fun hb_58 => ?_) (fun hb_58 => ?_)
          · refine g_iinc1 d_Mo_cutBy_134 rfl (by decide) ?_
            refine g_goto (tgt := 2) d_Mo_cutBy_137 (by decide) ?_
            refine ih M5 _ _ _ _ hC5 (fun g hg => ?_) hf5
            by_cases e : g = 3
            · subst e
              refine ⟨fun q => by omega, fun _ => ?_⟩
              rw [va_up_self, va_up_self]
              exact ⟨rfl, h5⟩
            · exact (hg2 g (by omega)).up (by omega) (by omega)
          · omega
        · omega
      · intro v hv ihv hv1 M5 s5 hC5 h5 hf5
        have g5 := (hf5 W (by omega) (by omega)).trans h
        refine g_iload d_Mo_cutBy_23 rfl ?_
        refine g_iconst (v := nI 4) d_Mo_cutBy_25 (by decide) ?_
        refine g_icmpN_ge (tgt := 47) d_Mo_cutBy_26 (by decide) (by omega) (by omega) (fun hb_26 => ?_) (fun hb_26 => ?_)
        · omega
        refine g_iload_n d_Mo_cutBy_29 rfl ?_
        refine g_iconst (v := nI 3) d_Mo_cutBy_30 (by decide) ?_
        refine g_icmpN_ne (tgt := 47) d_Mo_cutBy_31 (by decide) (by omega) (by omega) (fun hb_31 => ?_) (fun hb_31 => ?_)
        · omega
        refine g_aload_n d_Mo_cutBy_34 rfl ?_
        refine g_iload_n d_Mo_cutBy_35 rfl ?_
        refine g_iload d_Mo_cutBy_36 rfl ?_
        refine g_callV s_Mo_147 sv_Mo_addCut (by assumption) rfl (k_Mo_addCut g5 hC5 3 v (by omega) (by omega) (by rw [va_up_self]; omega)) (by omega) rfl (by omega) (by omega) rfl (Nat.le_of_ble_eq_true rfl) d_Mo_cutBy_38 ?_
        rintro v' N' M6 ⟨rfl, rfl, hC6, f6⟩
        rw [va_up_self, va_up_self, va_up2, va_up2] at hC6
        obtain ⟨w1, w2⟩ := cin_all (t := mst 3 + 1) h5 (by show v < 4; omega)
        rw [w1] at hC6
        refine g_iinc1 d_Mo_cutBy_41 rfl (by decide) ?_
        refine g_goto (tgt := 23) d_Mo_cutBy_44 (by decide) ?_
        exact ihv (by omega) M6 _ hC6 w2 (fun x x1 x2 => (f6 x x1 x2).trans (hf5 x x1 x2))
    · have hf3 : f < 3 := by omega
      refine g_iload d_Mo_cutBy_23 rfl ?_
      refine g_iconst (v := nI 4) d_Mo_cutBy_25 (by decide) ?_
      refine g_icmpN_ge (tgt := 47) d_Mo_cutBy_26 (by decide) (by omega) (by omega) (fun hb_26 => ?_) (fun hb_26 => ?_)
      · omega
      refine g_iload_n d_Mo_cutBy_29 rfl ?_
      refine g_iconst (v := nI 3) d_Mo_cutBy_30 (by decide) ?_
      refine g_icmpN_ne (tgt := 47) d_Mo_cutBy_31 (by decide) (by omega) (by omega) (fun hb_31 => ?_) (fun hb_31 => ?_)
      · refine g_iload_n d_Mo_cutBy_47 rfl ?_
        refine g_istore d_Mo_cutBy_48 (by decide) ?_
        refine g_for (P := fun j => a ≤ j → ∀ (M5 : gM) (n5 : Nat) (s5 : Nat → Nat) (z : Option Value), o_cu E M5 W (va_up cn2 f n5) (va_up cs2 f s5) → rows_ok s5 n5 (mst f + 1) → (∀ t, a ≤ t → t < j → hsb (rr t) (mm t) f n5 s5) → n5 ≤ 1 + 2 * sml mm a j → (∀ x, x ≠ W + 7 → x ≠ W + 8 → M5 x = M x) → G _ _ _ _ _ _ _ _ _ _ _ _ 50 [some (.ref W), some (.int (nI a)), some (.int (nI b)), some (.int (nI f)), some (.int (nI j)), z] [] _ M5 0 0) (e := b + 1) ?_ ?_ a (by omega) (by omega) M4 1 st z hC4 ⟨n2, by omega, fun k hk => by omega, by rw [show 1 - 1 = 0 from rfl, n2]; omega⟩ (fun t t1 t2 => by omega) (by omega) hf4
        · intro _ M5 n5 s5 z hC5 r5 k5 l5 hf5
          refine g_iload d_Mo_cutBy_50 rfl ?_
          refine g_iload_n d_Mo_cutBy_52 rfl ?_
          refine g_icmpN_gt (tgt := 134) d_Mo_cutBy_53 (by decide) (by omega) (by omega) (fun hb_53 => ?_) (fun hb_53 => ?_)
          · refine g_iinc1 d_Mo_cutBy_134 rfl (by decide) ?_
            refine g_goto (tgt := 2) d_Mo_cutBy_137 (by decide) ?_
            refine ih M5 _ _ _ _ hC5 (fun g hg => ?_) hf5
            by_cases e : g = f
            · subst e
              refine ⟨fun _ => ?_, fun q => by omega⟩
              rw [va_up_self, va_up_self]
              exact ⟨r5, fun t t1 t2 => k5 t t1 (by omega), l5⟩
            · exact (hg2 g (by omega)).up (by omega) (by omega)
          · omega
        · intro j hj ihj haj M5 n5 s5 z hC5 r5 k5 l5 hf5
          have hsj := hsum j (by omega)
          have hmj := (h1 j (by omega)).1
          refine g_iload d_Mo_cutBy_50 rfl ?_
          refine g_iload_n d_Mo_cutBy_52 rfl ?_
          refine g_icmpN_gt (tgt := 134) d_Mo_cutBy_53 (by decide) (by omega) (by omega) (fun hb_53 => ?_) (fun hb_53 => ?_)
          · omega
          refine g_iload_n d_Mo_cutBy_56 rfl ?_
          refine g_iconst (v := nI 3) d_Mo_cutBy_57 (by decide) ?_
          refine g_icmpN_ge (tgt := 134) d_Mo_cutBy_58 (by decide) (by omega) (by omega) (fun hb_58 => ?_) (fun hb_58 => ?_)
          · omega
          refine g_iconst (v := nI 0) d_Mo_cutBy_61 (by decide) ?_
          refine g_istore d_Mo_cutBy_62 (by decide) ?_
          refine g_for (P := fun i => ∀ (M6 : gM) (n6 : Nat) (s6 : Nat → Nat), o_cu E M6 W (va_up cn2 f n6) (va_up cs2 f s6) → rows_ok s6 n6 (mst f + 1) → (∀ t, a ≤ t → t < j → hsb (rr t) (mm t) f n6 s6) → hsb (rr j) i f n6 s6 → n6 ≤ 1 + 2 * (sml mm a j + i) → (∀ x, x ≠ W + 7 → x ≠ W + 8 → M6 x = M x) → G _ _ _ _ _ _ _ _ _ _ _ _ 64 [some (.ref W), some (.int (nI a)), some (.int (nI b)), some (.int (nI f)), some (.int (nI j)), some (.int (nI i))] [] _ M6 0 0) (e := mm j) ?_ ?_ 0 (by omega) M5 n5 s5 hC5 r5 k5 (fun i hi => by omega) (by omega) hf5
          · intro M6 n6 s6 hC6 r6 k6 i6 l6 hf6
            have g6 := (hf6 W (by omega) (by omega)).trans h
            have d6 := (hf6 (W + 5) (by omega) (by omega)).trans d1
            refine g_iload d_Mo_cutBy_64 rfl ?_
            refine g_aload_n d_Mo_cutBy_66 rfl ?_
            refine g_get f_Mo_22 (by assumption) rfl d_Mo_cutBy_67 ?_
            refine g_iload d_Mo_cutBy_70 rfl ?_
            refine g_iald _ (by assumption) rfl (by omega) (by decide) d_Mo_cutBy_72 ?_
            refine g_eqi (d2 j (by omega)) ?_
            refine g_icmpN_ge (tgt := 128) d_Mo_cutBy_73 (by decide) (by omega) (by omega) (fun hb_73 => ?_) (fun hb_73 => ?_)
            · refine g_iinc1 d_Mo_cutBy_128 rfl (by decide) ?_
              refine g_goto (tgt := 50) d_Mo_cutBy_131 (by decide) ?_
              refine ihj (by omega) M6 n6 s6 _ hC6 r6 (fun t t1 t2 => ?_) ?_ hf6
              · by_cases e : t = j
                · subst e; exact i6
                · exact k6 t t1 (by omega)
              · show n6 ≤ 1 + 2 * (sml mm a j + (if a ≤ j then mm j else 0))
                rw [if_pos haj]
                exact l6
            · omega
          · intro i hi ihi M6 n6 s6 hC6 r6 k6 i6 l6 hf6
            have g6 := (hf6 W (by omega) (by omega)).trans h
            have d6 := (hf6 (W + 5) (by omega) (by omega)).trans d1
            have b6 := (hf6 (W + 3) (by omega) (by omega)).trans b1
            have rok := ((h1 j (by omega)).2 i hi).2 f hf
            have hms := mst_lt f
            refine g_iload d_Mo_cutBy_64 rfl ?_
            refine g_aload_n d_Mo_cutBy_66 rfl ?_
            refine g_get f_Mo_22 (by assumption) rfl d_Mo_cutBy_67 ?_
            refine g_iload d_Mo_cutBy_70 rfl ?_
            refine g_iald _ (by assumption) rfl (by omega) (by decide) d_Mo_cutBy_72 ?_
            refine g_eqi (d2 j (by omega)) ?_
            refine g_icmpN_ge (tgt := 128) d_Mo_cutBy_73 (by decide) (by omega) (by omega) (fun hb_73 => ?_) (fun hb_73 => ?_)
            · omega
            refine g_aload_n d_Mo_cutBy_76 rfl ?_
            refine g_iload_n d_Mo_cutBy_77 rfl ?_
            refine g_aload_n d_Mo_cutBy_78 rfl ?_
            refine g_get f_Mo_16 (by assumption) rfl d_Mo_cutBy_79 ?_
            refine g_bipush (v := nI 32) d_Mo_cutBy_82 (by decide) ?_
            refine g_iload d_Mo_cutBy_84 rfl ?_
            refine g_imul d_Mo_cutBy_86 ?_
            refine g_eqi (pk_mul _ _) ?_
            refine g_iconst (v := nI 4) d_Mo_cutBy_87 (by decide) ?_
            refine g_iload d_Mo_cutBy_88 rfl ?_
            refine g_imul d_Mo_cutBy_90 ?_
            refine g_eqi (pk_mul _ _) ?_
            refine g_iadd d_Mo_cutBy_91 ?_
            refine g_eqi (nI_add _ _) ?_
            refine g_iload_n d_Mo_cutBy_92 rfl ?_
            refine g_iadd d_Mo_cutBy_93 ?_
            refine g_eqi (nI_add _ _) ?_
            refine g_iald _ (by assumption) rfl (by omega) (by decide) d_Mo_cutBy_94 ?_
            refine g_eqi (z := nI ((rr j i).2.1 f)) (by rw [show 32 * j + 4 * i + f = 4 * (8 * j + i) + f by omega]; exact b2 j i f (by omega) hi hf) ?_
            refine g_callV s_Mo_147 sv_Mo_addCut (by assumption) rfl (k_Mo_addCut g6 hC6 f ((rr j i).2.1 f) hf (by omega) (by rw [va_up_self]; omega)) (by omega) rfl (by omega) (by omega) rfl (Nat.le_of_ble_eq_true rfl) d_Mo_cutBy_95 ?_
            rintro v' N' M7 ⟨rfl, rfl, hC7, f7⟩
            rw [va_up_self, va_up_self, va_up2, va_up2] at hC7
            have l7 := (cin1_le n6 s6 ((rr j i).2.1 f) (mst f + 1)).2
            have g7 := (f7 W (by omega) (by omega)).trans g6
            have c7 := (f7 (W + 4) (by omega) (by omega)).trans ((hf6 (W + 4) (by omega) (by omega)).trans c1)
            refine g_aload_n d_Mo_cutBy_98 rfl ?_
            refine g_iload_n d_Mo_cutBy_99 rfl ?_
            refine g_aload_n d_Mo_cutBy_100 rfl ?_
            refine g_get f_Mo_19 (by assumption) rfl d_Mo_cutBy_101 ?_
            refine g_bipush (v := nI 32) d_Mo_cutBy_104 (by decide) ?_
            refine g_iload d_Mo_cutBy_106 rfl ?_
            refine g_imul d_Mo_cutBy_108 ?_
            refine g_eqi (pk_mul _ _) ?_
            refine g_iconst (v := nI 4) d_Mo_cutBy_109 (by decide) ?_
            refine g_iload d_Mo_cutBy_110 rfl ?_
            refine g_imul d_Mo_cutBy_112 ?_
            refine g_eqi (pk_mul _ _) ?_
            refine g_iadd d_Mo_cutBy_113 ?_
            refine g_eqi (nI_add _ _) ?_
            refine g_iload_n d_Mo_cutBy_114 rfl ?_
            refine g_iadd d_Mo_cutBy_115 ?_
            refine g_eqi (nI_add _ _) ?_
            refine g_iald _ (by assumption) rfl (by omega) (by decide) d_Mo_cutBy_116 ?_
            refine g_eqi (z := nI ((rr j i).2.2 f)) (by rw [show 32 * j + 4 * i + f = 4 * (8 * j + i) + f by omega]; exact c2 j i f (by omega) hi hf) ?_
            refine g_iconst (v := nI 1) d_Mo_cutBy_117 (by decide) ?_
            refine g_iadd d_Mo_cutBy_118 ?_
            refine g_eqi (nI_add _ _) ?_
            refine g_callV s_Mo_147 sv_Mo_addCut (by assumption) rfl (k_Mo_addCut g7 hC7 f ((rr j i).2.2 f + 1) hf (by omega) (by rw [va_up_self]; omega)) (by omega) rfl (by omega) (by omega) rfl (Nat.le_of_ble_eq_true rfl) d_Mo_cutBy_119 ?_
            rintro v' N' M8 ⟨rfl, rfl, hC8, f8⟩
            rw [va_up_self, va_up_self, va_up2, va_up2] at hC8
            have l8 := (cin1_le (cin1 n6 s6 ((rr j i).2.1 f) (mst f + 1)) (cin2 n6 s6 ((rr j i).2.1 f) (mst f + 1)) ((rr j i).2.2 f + 1) (mst f + 1)).2
            refine g_iinc1 d_Mo_cutBy_122 rfl (by decide) ?_
            refine g_goto (tgt := 64) d_Mo_cutBy_125 (by decide) ?_
            refine ihi M8 _ _ hC8 (cin_ok (cin_ok r6)) (fun t t1 t2 => ((k6 t t1 t2).cin _).cin _) (fun t ht => ?_) (by omega) (fun x x1 x2 => (f8 x x1 x2).trans ((f7 x x1 x2).trans (hf6 x x1 x2)))
            by_cases e : t = i
            · subst e
              exact ⟨has_cin _ (has_new _), has_new _⟩
            · exact ((i6.cin _).cin _) t (by omega)
      · omega
end MCUTBY

