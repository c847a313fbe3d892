/-! the model's sums over boxes -/
def sD (P : Nat → Bool) (cn : Nat → Nat) (cs : Nat → Nat → Nat) (a b c d : Nat) : Nat := if P (pkt (cs 0 a) (cs 1 b) (cs 2 c) d) = true then wdt cn cs 0 a * wdt cn cs 1 b * wdt cn cs 2 c else 0
def sC (P : Nat → Bool) (cn : Nat → Nat) (cs : Nat → Nat → Nat) (a b c : Nat) : Nat := sm (sD P cn cs a b c) 4
def sB (P : Nat → Bool) (cn : Nat → Nat) (cs : Nat → Nat → Nat) (a b : Nat) : Nat := sm (sC P cn cs a b) (cn 2)
def sA (P : Nat → Bool) (cn : Nat → Nat) (cs : Nat → Nat → Nat) (a : Nat) : Nat := sm (sB P cn cs a) (cn 1)
theorem bxs_sA (P : Nat → Bool) (cn : Nat → Nat) (cs : Nat → Nat → Nat) : bxs P cn cs = sm (sA P cn cs) (cn 0) := rfl
theorem jdg_lt3 {rs : Nat → Rl} {m : Nat} (h : ∀ i, i < m → r_ok (rs i)) (p : Nat) : jdg rs m p < 3 := by
  unfold jdg
  split
  · exact (h _ (by assumption)).1
  · omega
theorem byr_jdg (mm : Nat → Nat) (rr : Nat → Nat → Rl) (j v : Nat) : byr mm rr j j (fun p => decide (jdg (rr j) (mm j) p = v)) := fun p q h => by
  show decide (jdg (rr j) (mm j) p = v) = decide (jdg (rr j) (mm j) q = v)
  rw [jdg_congr (fun i hi => h j i (Nat.le_refl _) (Nat.le_refl _) hi)]
theorem byr_fi (mm : Nat → Nat) (rr : Nat → Nat → Rl) (j v : Nat) : byr mm rr j j (fun p => decide (fi (fun k => r_m (rr j k) p) (mm j) = v)) := fun p q h => by
  show decide (fi (fun k => r_m (rr j k) p) (mm j) = v) = decide (fi (fun k => r_m (rr j k) q) (mm j) = v)
  rw [fi_congr (fun i hi => h j i (Nat.le_refl _) (Nat.le_refl _) hi)]
theorem m1_ne {v : Nat} (hv : v < 2 ^ 31) : (-1 : Int32) ≠ nI v := fun e => nI_pos hv (by rw [← e]; decide)
theorem gdc3 {mm : Nat → Nat} {rr : Nat → Nat → Rl} {a b : Nat} {cn : Nat → Nat} {cs : Nat → Nat → Nat} (hg : ∀ g, g < 4 → gdc mm rr a b cn cs g) : (∀ k, k < cn 0 → cs 0 k ≤ 255) ∧ (∀ k, k < cn 1 → cs 1 k ≤ 255) ∧ ∀ k, k < cn 2 → cs 2 k ≤ 1023 := by
  obtain ⟨r0, -, -⟩ := (hg 0 (by omega)).1 (by omega)
  obtain ⟨r1, -, -⟩ := (hg 1 (by omega)).1 (by omega)
  obtain ⟨r2, -, -⟩ := (hg 2 (by omega)).1 (by omega)
  exact ⟨fun k hk => by have := rows_top r0 hk; have e : mst 0 = 255 := rfl; omega, fun k hk => by have := rows_top r1 hk; have e : mst 1 = 255 := rfl; omega, fun k hk => by have := rows_top r2 hk; have e : mst 2 = 1023 := rfl; omega⟩
section MSUM
variable {l : Launch} {E : gE} {N : Nat} {M : gM} {W tn : Nat} {th sz lk rc pl fa : Int32} {ts cn mm : Nat → Nat} {cs : Nat → Nat → Nat} {rr : Nat → Nat → Rl} {gn : Nat} {gs : Nat → Nat}
theorem OM.cuts {M' : gM} (h : OM E M W th tn ts mm rr gn gs) (hC : ∃ cn cs, o_cu E M' W cn cs) (hk : ∀ x, x ≠ W + 7 → x ≠ W + 8 → M' x = M x) : OM E M' W th tn ts mm rr gn gs := by
  obtain ⟨⟨rc, pl, fa, hO⟩, hT, hL, hK, -, ⟨c, h3⟩, ⟨d, h4⟩, ⟨e, h5⟩, f, h6⟩ := h
  exact ⟨⟨rc, pl, fa, (hk _ (by omega) (by omega)).trans hO⟩, hT.kept (hk _ (by omega) (by omega)), hL.kept (fun x _ _ => hk x (by omega) (by omega)), hK.kept (hk _ (by omega) (by omega)), hC, ⟨c, (hk _ (by omega) (by omega)).trans h3⟩, ⟨d, (hk _ (by omega) (by omega)).trans h4⟩, ⟨e, (hk _ (by omega) (by omega)).trans h5⟩, f, (hk _ (by omega) (by omega)).trans h6⟩
theorem k_Mo_sum0 (h : M W = some (.inr (10, mo W th sz lk rc pl fa))) (hL : o_ml E M W mm rr) (hC : o_cu E M W cn cs) (j v : Nat) (hj : j < 2) (hv : v < 3) : Ctr l E y_Mo_sum 4 [.ref W, .int (nI j), .int (nI 0), .int (nI v)] N M 0 0 (g_ret (fun z N' M' => z = some (.int (nI (apk (fun p => decide (jdg (rr j) (mm j) p = v))))) ∧ N' = N ∧ (∃ cn' cs', o_cu E M' W cn' cs') ∧ ∀ x, x ≠ W + 7 → x ≠ W + 8 → M' x = M x)) := by
  have hm8 := (hL.1 j hj).1
  obtain ⟨P, hP⟩ : ∃ P : Nat → Bool, P = fun p => decide (jdg (rr j) (mm j) p = v) := ⟨_, rfl⟩
  have hby : byr mm rr j j P := by rw [hP]; exact byr_jdg mm rr j v
  rw [← hP]
  refine ctr_of [some (.ref W), some (.int (nI j)), some (.int (nI 0)), some (.int (nI v)), none, none, none, none, none, none] (by decide) w_1088 rfl rfl (Nat.le_of_ble_eq_true rfl) (fun Γ => ?_)
  refine g_aload_n d_Mo_sum_0 rfl ?_
  refine g_iload_n d_Mo_sum_1 rfl ?_
  refine g_iload_n d_Mo_sum_2 rfl ?_
  refine g_callV s_Mo_150 sv_Mo_cutBy (by assumption) rfl (k_Mo_cutBy h hL hC j j (Nat.le_refl _) hj) (by omega) rfl (by omega) (by omega) rfl (Nat.le_of_ble_eq_true rfl) d_Mo_sum_3 ?_
  rintro v' N' M1 ⟨rfl, rfl, ⟨cn1, cs1, hC1, hg⟩, f1⟩
  have h1 := (f1 W (by omega) (by omega)).trans h
  have hL1 := hL.kept (M' := M1) (fun x _ _ => f1 x (by omega) (by omega))
  have hbx := bxs_apk hg hby
  rw [bxs_sA] at hbx
  obtain ⟨q0, q1, q2⟩ := gdc3 hg
  obtain ⟨r0, -, -⟩ := (hg 0 (by omega)).1 (by omega)
  obtain ⟨r1, -, -⟩ := (hg 1 (by omega)).1 (by omega)
  obtain ⟨r2, -, -⟩ := (hg 2 (by omega)).1 (by omega)
  obtain ⟨⟨fm, m1, m2⟩, -⟩ := id hC1
  have n0 := m2 0 (by omega)
  have n1 := m2 1 (by omega)
  have n2 := m2 2 (by omega)
  refine g_iconst (v := nI 0) d_Mo_sum_6 (by decide) ?_
  refine g_istore d_Mo_sum_7 (by decide) ?_
  refine g_iconst (v := nI 0) d_Mo_sum_9 (by decide) ?_
  refine g_istore d_Mo_sum_10 (by decide) ?_
  refine g_for (P := fun a => ∀ (S : Nat) (y6 y7 y8 y9 : Option Value), S = sm (sA P cn1 cs1) a → G _ _ _ _ _ _ _ _ _ _ _ _ 12 [some (.ref W), some (.int (nI j)), some (.int (nI 0)), some (.int (nI v)), some (.int (nI S)), some (.int (nI a)), y6, y7, y8, y9] [] _ M1 0 0) (e := cn1 0) ?_ ?_ 0 (by omega) 0 none none none none rfl
  · intro S y6 y7 y8 y9 hS
    rw [hbx] at hS
    subst hS
    refine g_iload d_Mo_sum_12 rfl ?_
    refine g_aload_n d_Mo_sum_14 rfl ?_
    refine g_get f_Mo_31 (by assumption) rfl d_Mo_sum_15 ?_
    refine g_iconst (v := nI 0) d_Mo_sum_18 (by decide) ?_
    refine g_iald _ (by assumption) rfl (by omega) (by decide) d_Mo_sum_19 ?_
    refine g_eqi n0.1 ?_
    refine g_icmpN_ge (tgt := 187) d_Mo_sum_20 (by decide) (by omega) (by omega) (fun hb_20 => ?_) (fun hb_20 => ?_)
    · refine g_iload d_Mo_sum_187 rfl ?_
      exact g_ireturn rfl rfl (by omega) (by omega) d_Mo_sum_189 ⟨_, rfl, rfl, rfl, ⟨cn1, cs1, hC1⟩, f1⟩
    · omega
  intro a ha iha S y6 y7 y8 y9 hS
  have ta := q0 a ha
  refine g_iload d_Mo_sum_12 rfl ?_
  refine g_aload_n d_Mo_sum_14 rfl ?_
  refine g_get f_Mo_31 (by assumption) rfl d_Mo_sum_15 ?_
  refine g_iconst (v := nI 0) d_Mo_sum_18 (by decide) ?_
  refine g_iald _ (by assumption) rfl (by omega) (by decide) d_Mo_sum_19 ?_
  refine g_eqi n0.1 ?_
  refine g_icmpN_ge (tgt := 187) d_Mo_sum_20 (by decide) (by omega) (by omega) (fun hb_20 => ?_) (fun hb_20 => ?_)
  · omega
  refine g_iconst (v := nI 0) d_Mo_sum_23 (by decide) ?_
  refine g_istore d_Mo_sum_24 (by decide) ?_
  refine g_for (P := fun b => ∀ (S : Nat) (y7 y8 y9 : Option Value), S = sm (sA P cn1 cs1) a + sm (sB P cn1 cs1 a) b → G _ _ _ _ _ _ _ _ _ _ _ _ 26 [some (.ref W), some (.int (nI j)), some (.int (nI 0)), some (.int (nI v)), some (.int (nI S)), some (.int (nI a)), some (.int (nI b)), y7, y8, y9] [] _ M1 0 0) (e := cn1 1) ?_ ?_ 0 (by omega) S y7 y8 y9 hS
  · intro S y7 y8 y9 hS
    refine g_iload d_Mo_sum_26 rfl ?_
    refine g_aload_n d_Mo_sum_28 rfl ?_
    refine g_get f_Mo_31 (by assumption) rfl d_Mo_sum_29 ?_
    refine g_iconst (v := nI 1) d_Mo_sum_32 (by decide) ?_
    refine g_iald _ (by assumption) rfl (by omega) (by decide) d_Mo_sum_33 ?_
    refine g_eqi n1.1 ?_
    refine g_icmpN_ge (tgt := 181) d_Mo_sum_34 (by decide) (by omega) (by omega) (fun hb_34 => ?_) (fun hb_34 => ?_)
    · refine g_iinc1 d_Mo_sum_181 rfl (by decide) ?_
      refine g_goto (tgt := 12) d_Mo_sum_184 (by decide) ?_
      exact iha S _ _ _ _ hS
    · omega
  intro b hb ihb S y7 y8 y9 hS
  have tb := q1 b hb
  refine g_iload d_Mo_sum_26 rfl ?_
  refine g_aload_n d_Mo_sum_28 rfl ?_
  refine g_get f_Mo_31 (by assumption) rfl d_Mo_sum_29 ?_
  refine g_iconst (v := nI 1) d_Mo_sum_32 (by decide) ?_
  refine g_iald _ (by assumption) rfl (by omega) (by decide) d_Mo_sum_33 ?_
  refine g_eqi n1.1 ?_
  refine g_icmpN_ge (tgt := 181) d_Mo_sum_34 (by decide) (by omega) (by omega) (fun hb_34 => ?_) (fun hb_34 => ?_)
  · omega
  refine g_iconst (v := nI 0) d_Mo_sum_37 (by decide) ?_
  refine g_istore d_Mo_sum_38 (by decide) ?_
  refine g_for (P := fun c => ∀ (S : Nat) (y8 y9 : Option Value), S = sm (sA P cn1 cs1) a + sm (sB P cn1 cs1 a) b + sm (sC P cn1 cs1 a b) c → G _ _ _ _ _ _ _ _ _ _ _ _ 40 [some (.ref W), some (.int (nI j)), some (.int (nI 0)), some (.int (nI v)), some (.int (nI S)), some (.int (nI a)), some (.int (nI b)), some (.int (nI c)), y8, y9] [] _ M1 0 0) (e := cn1 2) ?_ ?_ 0 (by omega) S y8 y9 hS
  · intro S y8 y9 hS
    refine g_iload d_Mo_sum_40 rfl ?_
    refine g_aload_n d_Mo_sum_42 rfl ?_
    refine g_get f_Mo_31 (by assumption) rfl d_Mo_sum_43 ?_
    refine g_iconst (v := nI 2) d_Mo_sum_46 (by decide) ?_
    refine g_iald _ (by assumption) rfl (by omega) (by decide) d_Mo_sum_47 ?_
    refine g_eqi n2.1 ?_
    refine g_icmpN_ge (tgt := 175) d_Mo_sum_48 (by decide) (by omega) (by omega) (fun hb_48 => ?_) (fun hb_48 => ?_)
    · refine g_iinc1 d_Mo_sum_175 rfl (by decide) ?_
      refine g_goto (tgt := 26) d_Mo_sum_178 (by decide) ?_
      exact ihb S _ _ _ (hS.trans (Nat.add_assoc _ _ _))
    · omega
  intro c hc ihc S y8 y9 hS
  have tc := q2 c hc
  refine g_iload d_Mo_sum_40 rfl ?_
  refine g_aload_n d_Mo_sum_42 rfl ?_
  refine g_get f_Mo_31 (by assumption) rfl d_Mo_sum_43 ?_
  refine g_iconst (v := nI 2) d_Mo_sum_46 (by decide) ?_
  refine g_iald _ (by assumption) rfl (by omega) (by decide) d_Mo_sum_47 ?_
  refine g_eqi n2.1 ?_
  refine g_icmpN_ge (tgt := 175) d_Mo_sum_48 (by decide) (by omega) (by omega) (fun hb_48 => ?_) (fun hb_48 => ?_)
  · omega
  refine g_iconst (v := nI 0) d_Mo_sum_51 (by decide) ?_
  refine g_istore d_Mo_sum_52 (by decide) ?_
  refine g_for (P := fun d => ∀ (S : Nat) (y9 : Option Value), S = sm (sA P cn1 cs1) a + sm (sB P cn1 cs1 a) b + sm (sC P cn1 cs1 a b) c + sm (sD P cn1 cs1 a b c) d → G _ _ _ _ _ _ _ _ _ _ _ _ 54 [some (.ref W), some (.int (nI j)), some (.int (nI 0)), some (.int (nI v)), some (.int (nI S)), some (.int (nI a)), some (.int (nI b)), some (.int (nI c)), some (.int (nI d)), y9] [] _ M1 0 0) (e := 4) ?_ ?_ 0 (by omega) S y9 hS
  · intro S y9 hS
    refine g_iload d_Mo_sum_54 rfl ?_
    refine g_iconst (v := nI 4) d_Mo_sum_56 (by decide) ?_
    refine g_icmpN_ge (tgt := 169) d_Mo_sum_57 (by decide) (by omega) (by omega) (fun hb_57 => ?_) (fun hb_57 => ?_)
    · refine g_iinc1 d_Mo_sum_169 rfl (by decide) ?_
      refine g_goto (tgt := 40) d_Mo_sum_172 (by decide) ?_
      exact ihc S _ _ (hS.trans (Nat.add_assoc _ _ _))
    · omega
  intro d hd ihd S y9 hS
  have hPd : P (pkt (cs1 0 a) (cs1 1 b) (cs1 2 c) d) = decide (jdg (rr j) (mm j) (pkt (cs1 0 a) (cs1 1 b) (cs1 2 c) d) = v) := by rw [hP]
  have hno : P (pkt (cs1 0 a) (cs1 1 b) (cs1 2 c) d) = false → S = sm (sA P cn1 cs1) a + sm (sB P cn1 cs1 a) b + sm (sC P cn1 cs1 a b) c + sm (sD P cn1 cs1 a b c) (d + 1) := by
    intro e
    have e2 : sD P cn1 cs1 a b c d = 0 := by unfold sD; rw [if_neg (by rw [e]; decide)]
    show S = _ + (sm (sD P cn1 cs1 a b c) d + sD P cn1 cs1 a b c d)
    rw [e2]
    exact hS
  have hyes : P (pkt (cs1 0 a) (cs1 1 b) (cs1 2 c) d) = true → S + wdt cn1 cs1 0 a * wdt cn1 cs1 1 b * wdt cn1 cs1 2 c = sm (sA P cn1 cs1) a + sm (sB P cn1 cs1 a) b + sm (sC P cn1 cs1 a b) c + sm (sD P cn1 cs1 a b c) (d + 1) := by
    intro e
    have e2 : sD P cn1 cs1 a b c d = wdt cn1 cs1 0 a * wdt cn1 cs1 1 b * wdt cn1 cs1 2 c := by unfold sD; rw [if_pos e]
    show _ = _ + (sm (sD P cn1 cs1 a b c) d + sD P cn1 cs1 a b c d)
    rw [e2, hS, Nat.add_assoc _ (sm (sD P cn1 cs1 a b c) d)]
  have hlt := jdg_lt3 (hL.1 j hj).2 (pkt (cs1 0 a) (cs1 1 b) (cs1 2 c) d)
  refine g_iload d_Mo_sum_54 rfl ?_
  refine g_iconst (v := nI 4) d_Mo_sum_56 (by decide) ?_
  refine g_icmpN_ge (tgt := 169) d_Mo_sum_57 (by decide) (by omega) (by omega) (fun hb_57 => ?_) (fun hb_57 => ?_)
  · omega
  refine g_iload_n d_Mo_sum_60 rfl ?_
  first | refine g_ifB_ne (tgt := 95) d_Mo_sum_61 (by decide) (fun hb_61 => ?_) (fun hb_61 => ?_) | refine g_ifN_ne (tgt := 95) d_Mo_sum_61 (by decide) (by omega) (fun hb_61 => ?_) (fun hb_61 => ?_)
  · exact absurd rfl hb_61
  refine g_aload_n d_Mo_sum_64 rfl ?_
  refine g_iload_n d_Mo_sum_65 rfl ?_
  refine g_aload_n d_Mo_sum_66 rfl ?_
  refine g_iconst (v := nI 0) d_Mo_sum_67 (by decide) ?_
  refine g_iload d_Mo_sum_68 rfl ?_
  refine g_callV s_Mo_144 sv_Mo_cut (by assumption) rfl (g_of_val (k_Mo_cut h1 hC1 0 a (by omega) ha)) (by omega) rfl (by omega) (by omega) rfl (Nat.le_of_ble_eq_true rfl) d_Mo_sum_70 ?_
  rintro _ _ _ ⟨rfl, rfl, rfl⟩
  refine g_aload_n d_Mo_sum_73 rfl ?_
  refine g_iconst (v := nI 1) d_Mo_sum_74 (by decide) ?_
  refine g_iload d_Mo_sum_75 rfl ?_
  refine g_callV s_Mo_144 sv_Mo_cut (by assumption) rfl (g_of_val (k_Mo_cut h1 hC1 1 b (by omega) hb)) (by omega) rfl (by omega) (by omega) rfl (Nat.le_of_ble_eq_true rfl) d_Mo_sum_77 ?_
  rintro _ _ _ ⟨rfl, rfl, rfl⟩
  refine g_aload_n d_Mo_sum_80 rfl ?_
  refine g_iconst (v := nI 2) d_Mo_sum_81 (by decide) ?_
  refine g_iload d_Mo_sum_82 rfl ?_
  refine g_callV s_Mo_144 sv_Mo_cut (by assumption) rfl (g_of_val (k_Mo_cut h1 hC1 2 c (by omega) hc)) (by omega) rfl (by omega) (by omega) rfl (Nat.le_of_ble_eq_true rfl) d_Mo_sum_84 ?_
  rintro _ _ _ ⟨rfl, rfl, rfl⟩
  refine g_iload d_Mo_sum_87 rfl ?_
  refine g_callV s_Mo_141 sv_Mo_verdictBy (by assumption) rfl (g_of_val (k_Mo_verdictBy h1 hL1 j (cs1 0 a) (cs1 1 b) (cs1 2 c) d hj ta tb tc (by omega))) (by omega) rfl (by omega) (by omega) rfl (Nat.le_of_ble_eq_true rfl) d_Mo_sum_89 ?_
  rintro _ _ _ ⟨rfl, rfl, rfl⟩
  refine g_goto (tgt := 123) d_Mo_sum_92 (by decide) ?_
  refine g_istore d_Mo_sum_123 (by decide) ?_
  refine g_iload d_Mo_sum_125 rfl ?_
  refine g_iload d_Mo_sum_127 rfl ?_
  refine g_iload_n d_Mo_sum_129 rfl ?_
  refine g_icmpN_ne (tgt := 159) d_Mo_sum_130 (by decide) (by omega) (by omega) (fun hb_130 => ?_) (fun hb_130 => ?_)
  · skip
    refine g_iconst (v := nI 0) d_Mo_sum_159 (by decide) ?_
    refine g_iadd d_Mo_sum_160 ?_
    refine g_eqi (nI_add _ _) ?_
    refine g_istore d_Mo_sum_161 (by decide) ?_
    refine g_iinc1 d_Mo_sum_163 rfl (by decide) ?_
    refine g_goto (tgt := 54) d_Mo_sum_166 (by decide) ?_
    exact ihd _ _ (hno (by rw [hPd]; exact decide_eq_false hb_130))
  · skip
    refine g_aload_n d_Mo_sum_133 rfl ?_
    refine g_iconst (v := nI 0) d_Mo_sum_134 (by decide) ?_
    refine g_iload d_Mo_sum_135 rfl ?_
    refine g_callV s_Mo_153 sv_Mo_width (by assumption) rfl (g_of_val (k_Mo_width h1 hC1 0 a (by omega) ha r0)) (by omega) rfl (by omega) (by omega) rfl (Nat.le_of_ble_eq_true rfl) d_Mo_sum_137 ?_
    rintro _ _ _ ⟨rfl, rfl, rfl⟩
    refine g_aload_n d_Mo_sum_140 rfl ?_
    refine g_iconst (v := nI 1) d_Mo_sum_141 (by decide) ?_
    refine g_iload d_Mo_sum_142 rfl ?_
    refine g_callV s_Mo_153 sv_Mo_width (by assumption) rfl (g_of_val (k_Mo_width h1 hC1 1 b (by omega) hb r1)) (by omega) rfl (by omega) (by omega) rfl (Nat.le_of_ble_eq_true rfl) d_Mo_sum_144 ?_
    rintro _ _ _ ⟨rfl, rfl, rfl⟩
    refine g_imul d_Mo_sum_147 ?_
    refine g_eqi (pk_mul _ _) ?_
    refine g_aload_n d_Mo_sum_148 rfl ?_
    refine g_iconst (v := nI 2) d_Mo_sum_149 (by decide) ?_
    refine g_iload d_Mo_sum_150 rfl ?_
    refine g_callV s_Mo_153 sv_Mo_width (by assumption) rfl (g_of_val (k_Mo_width h1 hC1 2 c (by omega) hc r2)) (by omega) rfl (by omega) (by omega) rfl (Nat.le_of_ble_eq_true rfl) d_Mo_sum_152 ?_
    rintro _ _ _ ⟨rfl, rfl, rfl⟩
    refine g_imul d_Mo_sum_155 ?_
    refine g_eqi (pk_mul _ _) ?_
    refine g_goto (tgt := 160) d_Mo_sum_156 (by decide) ?_
    refine g_iadd d_Mo_sum_160 ?_
    refine g_eqi (nI_add _ _) ?_
    refine g_istore d_Mo_sum_161 (by decide) ?_
    refine g_iinc1 d_Mo_sum_163 rfl (by decide) ?_
    refine g_goto (tgt := 54) d_Mo_sum_166 (by decide) ?_
    exact ihd _ _ (hyes (by rw [hPd]; exact decide_eq_true hb_130))
theorem k_Mo_sum1 (h : M W = some (.inr (10, mo W th sz lk rc pl fa))) (hL : o_ml E M W mm rr) (hC : o_cu E M W cn cs) (j v : Nat) (hj : j < 2) (hv : v < mm j) : Ctr l E y_Mo_sum 4 [.ref W, .int (nI j), .int (nI 1), .int (nI v)] N M 0 0 (g_ret (fun z N' M' => z = some (.int (nI (apk (fun p => decide (fi (fun k => r_m (rr j k) p) (mm j) = v))))) ∧ N' = N ∧ (∃ cn' cs', o_cu E M' W cn' cs') ∧ ∀ x, x ≠ W + 7 → x ≠ W + 8 → M' x = M x)) := by
  have hm8 := (hL.1 j hj).1
  obtain ⟨P, hP⟩ : ∃ P : Nat → Bool, P = fun p => decide (fi (fun k => r_m (rr j k) p) (mm j) = v) := ⟨_, rfl⟩
  have hby : byr mm rr j j P := by rw [hP]; exact byr_fi mm rr j v
  rw [← hP]
  refine ctr_of [some (.ref W), some (.int (nI j)), some (.int (nI 1)), some (.int (nI v)), none, none, none, none, none, none] (by decide) w_1088 rfl rfl (Nat.le_of_ble_eq_true rfl) (fun Γ => ?_)
  refine g_aload_n d_Mo_sum_0 rfl ?_
  refine g_iload_n d_Mo_sum_1 rfl ?_
  refine g_iload_n d_Mo_sum_2 rfl ?_
  refine g_callV s_Mo_150 sv_Mo_cutBy (by assumption) rfl (k_Mo_cutBy h hL hC j j (Nat.le_refl _) hj) (by omega) rfl (by omega) (by omega) rfl (Nat.le_of_ble_eq_true rfl) d_Mo_sum_3 ?_
  rintro v' N' M1 ⟨rfl, rfl, ⟨cn1, cs1, hC1, hg⟩, f1⟩
  have h1 := (f1 W (by omega) (by omega)).trans h
  have hL1 := hL.kept (M' := M1) (fun x _ _ => f1 x (by omega) (by omega))
  have hbx := bxs_apk hg hby
  rw [bxs_sA] at hbx
  obtain ⟨q0, q1, q2⟩ := gdc3 hg
  obtain ⟨r0, -, -⟩ := (hg 0 (by omega)).1 (by omega)
  obtain ⟨r1, -, -⟩ := (hg 1 (by omega)).1 (by omega)
  obtain ⟨r2, -, -⟩ := (hg 2 (by omega)).1 (by omega)
  obtain ⟨⟨fm, m1, m2⟩, -⟩ := id hC1
  have n0 := m2 0 (by omega)
  have n1 := m2 1 (by omega)
  have n2 := m2 2 (by omega)
  refine g_iconst (v := nI 0) d_Mo_sum_6 (by decide) ?_
  refine g_istore d_Mo_sum_7 (by decide) ?_
  refine g_iconst (v := nI 0) d_Mo_sum_9 (by decide) ?_
  refine g_istore d_Mo_sum_10 (by decide) ?_
  refine g_for (P := fun a => ∀ (S : Nat) (y6 y7 y8 y9 : Option Value), S = sm (sA P cn1 cs1) a → G _ _ _ _ _ _ _ _ _ _ _ _ 12 [some (.ref W), some (.int (nI j)), some (.int (nI 1)), some (.int (nI v)), some (.int (nI S)), some (.int (nI a)), y6, y7, y8, y9] [] _ M1 0 0) (e := cn1 0) ?_ ?_ 0 (by omega) 0 none none none none rfl
  · intro S y6 y7 y8 y9 hS
    rw [hbx] at hS
    subst hS
    refine g_iload d_Mo_sum_12 rfl ?_
    refine g_aload_n d_Mo_sum_14 rfl ?_
    refine g_get f_Mo_31 (by assumption) rfl d_Mo_sum_15 ?_
    refine g_iconst (v := nI 0) d_Mo_sum_18 (by decide) ?_
    refine g_iald _ (by assumption) rfl (by omega) (by decide) d_Mo_sum_19 ?_
    refine g_eqi n0.1 ?_
    refine g_icmpN_ge (tgt := 187) d_Mo_sum_20 (by decide) (by omega) (by omega) (fun hb_20 => ?_) (fun hb_20 => ?_)
    · refine g_iload d_Mo_sum_187 rfl ?_
      exact g_ireturn rfl rfl (by omega) (by omega) d_Mo_sum_189 ⟨_, rfl, rfl, rfl, ⟨cn1, cs1, hC1⟩, f1⟩
    · omega
  intro a ha iha S y6 y7 y8 y9 hS
  have ta := q0 a ha
  refine g_iload d_Mo_sum_12 rfl ?_
  refine g_aload_n d_Mo_sum_14 rfl ?_
  refine g_get f_Mo_31 (by assumption) rfl d_Mo_sum_15 ?_
  refine g_iconst (v := nI 0) d_Mo_sum_18 (by decide) ?_
  refine g_iald _ (by assumption) rfl (by omega) (by decide) d_Mo_sum_19 ?_
  refine g_eqi n0.1 ?_
  refine g_icmpN_ge (tgt := 187) d_Mo_sum_20 (by decide) (by omega) (by omega) (fun hb_20 => ?_) (fun hb_20 => ?_)
  · omega
  refine g_iconst (v := nI 0) d_Mo_sum_23 (by decide) ?_
  refine g_istore d_Mo_sum_24 (by decide) ?_
  refine g_for (P := fun b => ∀ (S : Nat) (y7 y8 y9 : Option Value), S = sm (sA P cn1 cs1) a + sm (sB P cn1 cs1 a) b → G _ _ _ _ _ _ _ _ _ _ _ _ 26 [some (.ref W), some (.int (nI j)), some (.int (nI 1)), some (.int (nI v)), some (.int (nI S)), some (.int (nI a)), some (.int (nI b)), y7, y8, y9] [] _ M1 0 0) (e := cn1 1) ?_ ?_ 0 (by omega) S y7 y8 y9 hS
  · intro S y7 y8 y9 hS
    refine g_iload d_Mo_sum_26 rfl ?_
    refine g_aload_n d_Mo_sum_28 rfl ?_
    refine g_get f_Mo_31 (by assumption) rfl d_Mo_sum_29 ?_
    refine g_iconst (v := nI 1) d_Mo_sum_32 (by decide) ?_
    refine g_iald _ (by assumption) rfl (by omega) (by decide) d_Mo_sum_33 ?_
    refine g_eqi n1.1 ?_
    refine g_icmpN_ge (tgt := 181) d_Mo_sum_34 (by decide) (by omega) (by omega) (fun hb_34 => ?_) (fun hb_34 => ?_)
    · refine g_iinc1 d_Mo_sum_181 rfl (by decide) ?_
      refine g_goto (tgt := 12) d_Mo_sum_184 (by decide) ?_
      exact iha S _ _ _ _ hS
    · omega
  intro b hb ihb S y7 y8 y9 hS
  have tb := q1 b hb
  refine g_iload d_Mo_sum_26 rfl ?_
  refine g_aload_n d_Mo_sum_28 rfl ?_
  refine g_get f_Mo_31 (by assumption) rfl d_Mo_sum_29 ?_
  refine g_iconst (v := nI 1) d_Mo_sum_32 (by decide) ?_
  refine g_iald _ (by assumption) rfl (by omega) (by decide) d_Mo_sum_33 ?_
  refine g_eqi n1.1 ?_
  refine g_icmpN_ge (tgt := 181) d_Mo_sum_34 (by decide) (by omega) (by omega) (fun hb_34 => ?_) (fun hb_34 => ?_)
  · omega
  refine g_iconst (v := nI 0) d_Mo_sum_37 (by decide) ?_
  refine g_istore d_Mo_sum_38 (by decide) ?_
  refine g_for (P := fun c => ∀ (S : Nat) (y8 y9 : Option Value), S = sm (sA P cn1 cs1) a + sm (sB P cn1 cs1 a) b + sm (sC P cn1 cs1 a b) c → G _ _ _ _ _ _ _ _ _ _ _ _ 40 [some (.ref W), some (.int (nI j)), some (.int (nI 1)), some (.int (nI v)), some (.int (nI S)), some (.int (nI a)), some (.int (nI b)), some (.int (nI c)), y8, y9] [] _ M1 0 0) (e := cn1 2) ?_ ?_ 0 (by omega) S y8 y9 hS
  · intro S y8 y9 hS
    refine g_iload d_Mo_sum_40 rfl ?_
    refine g_aload_n d_Mo_sum_42 rfl ?_
    refine g_get f_Mo_31 (by assumption) rfl d_Mo_sum_43 ?_
    refine g_iconst (v := nI 2) d_Mo_sum_46 (by decide) ?_
    refine g_iald _ (by assumption) rfl (by omega) (by decide) d_Mo_sum_47 ?_
    refine g_eqi n2.1 ?_
    refine g_icmpN_ge (tgt := 175) d_Mo_sum_48 (by decide) (by omega) (by omega) (fun hb_48 => ?_) (fun hb_48 => ?_)
    · refine g_iinc1 d_Mo_sum_175 rfl (by decide) ?_
      refine g_goto (tgt := 26) d_Mo_sum_178 (by decide) ?_
      exact ihb S _ _ _ (hS.trans (Nat.add_assoc _ _ _))
    · omega
  intro c hc ihc S y8 y9 hS
  have tc := q2 c hc
  refine g_iload d_Mo_sum_40 rfl ?_
  refine g_aload_n d_Mo_sum_42 rfl ?_
  refine g_get f_Mo_31 (by assumption) rfl d_Mo_sum_43 ?_
  refine g_iconst (v := nI 2) d_Mo_sum_46 (by decide) ?_
  refine g_iald _ (by assumption) rfl (by omega) (by decide) d_Mo_sum_47 ?_
  refine g_eqi n2.1 ?_
  refine g_icmpN_ge (tgt := 175) d_Mo_sum_48 (by decide) (by omega) (by omega) (fun hb_48 => ?_) (fun hb_48 => ?_)
  · omega
  refine g_iconst (v := nI 0) d_Mo_sum_51 (by decide) ?_
  refine g_istore d_Mo_sum_52 (by decide) ?_
  refine g_for (P := fun d => ∀ (S : Nat) (y9 : Option Value), S = sm (sA P cn1 cs1) a + sm (sB P cn1 cs1 a) b + sm (sC P cn1 cs1 a b) c + sm (sD P cn1 cs1 a b c) d → G _ _ _ _ _ _ _ _ _ _ _ _ 54 [some (.ref W), some (.int (nI j)), some (.int (nI 1)), some (.int (nI v)), some (.int (nI S)), some (.int (nI a)), some (.int (nI b)), some (.int (nI c)), some (.int (nI d)), y9] [] _ M1 0 0) (e := 4) ?_ ?_ 0 (by omega) S y9 hS
  · intro S y9 hS
    refine g_iload d_Mo_sum_54 rfl ?_
    refine g_iconst (v := nI 4) d_Mo_sum_56 (by decide) ?_
    refine g_icmpN_ge (tgt := 169) d_Mo_sum_57 (by decide) (by omega) (by omega) (fun hb_57 => ?_) (fun hb_57 => ?_)
    · refine g_iinc1 d_Mo_sum_169 rfl (by decide) ?_
      refine g_goto (tgt := 40) d_Mo_sum_172 (by decide) ?_
      exact ihc S _ _ (hS.trans (Nat.add_assoc _ _ _))
    · omega
  intro d hd ihd S y9 hS
  have hPd : P (pkt (cs1 0 a) (cs1 1 b) (cs1 2 c) d) = decide (fi (fun k => r_m (rr j k) (pkt (cs1 0 a) (cs1 1 b) (cs1 2 c) d)) (mm j) = v) := by rw [hP]
  have hno : P (pkt (cs1 0 a) (cs1 1 b) (cs1 2 c) d) = false → S = sm (sA P cn1 cs1) a + sm (sB P cn1 cs1 a) b + sm (sC P cn1 cs1 a b) c + sm (sD P cn1 cs1 a b c) (d + 1) := by
    intro e
    have e2 : sD P cn1 cs1 a b c d = 0 := by unfold sD; rw [if_neg (by rw [e]; decide)]
    show S = _ + (sm (sD P cn1 cs1 a b c) d + sD P cn1 cs1 a b c d)
    rw [e2]
    exact hS
  have hyes : P (pkt (cs1 0 a) (cs1 1 b) (cs1 2 c) d) = true → S + wdt cn1 cs1 0 a * wdt cn1 cs1 1 b * wdt cn1 cs1 2 c = sm (sA P cn1 cs1) a + sm (sB P cn1 cs1 a) b + sm (sC P cn1 cs1 a b) c + sm (sD P cn1 cs1 a b c) (d + 1) := by
    intro e
    have e2 : sD P cn1 cs1 a b c d = wdt cn1 cs1 0 a * wdt cn1 cs1 1 b * wdt cn1 cs1 2 c := by unfold sD; rw [if_pos e]
    show _ = _ + (sm (sD P cn1 cs1 a b c) d + sD P cn1 cs1 a b c d)
    rw [e2, hS, Nat.add_assoc _ (sm (sD P cn1 cs1 a b c) d)]
  refine g_iload d_Mo_sum_54 rfl ?_
  refine g_iconst (v := nI 4) d_Mo_sum_56 (by decide) ?_
  refine g_icmpN_ge (tgt := 169) d_Mo_sum_57 (by decide) (by omega) (by omega) (fun hb_57 => ?_) (fun hb_57 => ?_)
  · omega
  refine g_iload_n d_Mo_sum_60 rfl ?_
  first | refine g_ifB_ne (tgt := 95) d_Mo_sum_61 (by decide) (fun hb_61 => ?_) (fun hb_61 => ?_) | refine g_ifN_ne (tgt := 95) d_Mo_sum_61 (by decide) (by omega) (fun hb_61 => ?_) (fun hb_61 => ?_)
  rotate_left
  · exact absurd hb_61 (by decide)
  refine g_aload_n d_Mo_sum_95 rfl ?_
  refine g_iload_n d_Mo_sum_96 rfl ?_
  refine g_aload_n d_Mo_sum_97 rfl ?_
  refine g_iconst (v := nI 0) d_Mo_sum_98 (by decide) ?_
  refine g_iload d_Mo_sum_99 rfl ?_
  refine g_callV s_Mo_144 sv_Mo_cut (by assumption) rfl (g_of_val (k_Mo_cut h1 hC1 0 a (by omega) ha)) (by omega) rfl (by omega) (by omega) rfl (Nat.le_of_ble_eq_true rfl) d_Mo_sum_101 ?_
  rintro _ _ _ ⟨rfl, rfl, rfl⟩
  refine g_aload_n d_Mo_sum_104 rfl ?_
  refine g_iconst (v := nI 1) d_Mo_sum_105 (by decide) ?_
  refine g_iload d_Mo_sum_106 rfl ?_
  refine g_callV s_Mo_144 sv_Mo_cut (by assumption) rfl (g_of_val (k_Mo_cut h1 hC1 1 b (by omega) hb)) (by omega) rfl (by omega) (by omega) rfl (Nat.le_of_ble_eq_true rfl) d_Mo_sum_108 ?_
  rintro _ _ _ ⟨rfl, rfl, rfl⟩
  refine g_aload_n d_Mo_sum_111 rfl ?_
  refine g_iconst (v := nI 2) d_Mo_sum_112 (by decide) ?_
  refine g_iload d_Mo_sum_113 rfl ?_
  refine g_callV s_Mo_144 sv_Mo_cut (by assumption) rfl (g_of_val (k_Mo_cut h1 hC1 2 c (by omega) hc)) (by omega) rfl (by omega) (by omega) rfl (Nat.le_of_ble_eq_true rfl) d_Mo_sum_115 ?_
  rintro _ _ _ ⟨rfl, rfl, rfl⟩
  refine g_iload d_Mo_sum_118 rfl ?_
  refine g_callV s_Mo_134 sv_Mo_firstOf (by assumption) rfl (g_of_val (k_Mo_firstOf h1 hL1 j (cs1 0 a) (cs1 1 b) (cs1 2 c) d hj ta tb tc (by omega))) (by omega) rfl (by omega) (by omega) rfl (Nat.le_of_ble_eq_true rfl) d_Mo_sum_120 ?_
  rintro _ _ _ ⟨rfl, rfl, rfl⟩
  generalize fi (fun k => r_m (rr j k) (pkt (cs1 0 a) (cs1 1 b) (cs1 2 c) d)) (mm j) = k at hPd ⊢
  by_cases hkm : k < mm j
  · rw [show fI k (mm j) = nI k from if_pos hkm]
    refine g_istore d_Mo_sum_123 (by decide) ?_
    refine g_iload d_Mo_sum_125 rfl ?_
    refine g_iload d_Mo_sum_127 rfl ?_
    refine g_iload_n d_Mo_sum_129 rfl ?_
    refine g_icmpN_ne (tgt := 159) d_Mo_sum_130 (by decide) (by omega) (by omega) (fun hb_130 => ?_) (fun hb_130 => ?_)
    · skip
      refine g_iconst (v := nI 0) d_Mo_sum_159 (by decide) ?_
      refine g_iadd d_Mo_sum_160 ?_
      refine g_eqi (nI_add _ _) ?_
      refine g_istore d_Mo_sum_161 (by decide) ?_
      refine g_iinc1 d_Mo_sum_163 rfl (by decide) ?_
      refine g_goto (tgt := 54) d_Mo_sum_166 (by decide) ?_
      exact ihd _ _ (hno (by rw [hPd]; exact decide_eq_false hb_130))
    · skip
      refine g_aload_n d_Mo_sum_133 rfl ?_
      refine g_iconst (v := nI 0) d_Mo_sum_134 (by decide) ?_
      refine g_iload d_Mo_sum_135 rfl ?_
      refine g_callV s_Mo_153 sv_Mo_width (by assumption) rfl (g_of_val (k_Mo_width h1 hC1 0 a (by omega) ha r0)) (by omega) rfl (by omega) (by omega) rfl (Nat.le_of_ble_eq_true rfl) d_Mo_sum_137 ?_
      rintro _ _ _ ⟨rfl, rfl, rfl⟩
      refine g_aload_n d_Mo_sum_140 rfl ?_
      refine g_iconst (v := nI 1) d_Mo_sum_141 (by decide) ?_
      refine g_iload d_Mo_sum_142 rfl ?_
      refine g_callV s_Mo_153 sv_Mo_width (by assumption) rfl (g_of_val (k_Mo_width h1 hC1 1 b (by omega) hb r1)) (by omega) rfl (by omega) (by omega) rfl (Nat.le_of_ble_eq_true rfl) d_Mo_sum_144 ?_
      rintro _ _ _ ⟨rfl, rfl, rfl⟩
      refine g_imul d_Mo_sum_147 ?_
      refine g_eqi (pk_mul _ _) ?_
      refine g_aload_n d_Mo_sum_148 rfl ?_
      refine g_iconst (v := nI 2) d_Mo_sum_149 (by decide) ?_
      refine g_iload d_Mo_sum_150 rfl ?_
      refine g_callV s_Mo_153 sv_Mo_width (by assumption) rfl (g_of_val (k_Mo_width h1 hC1 2 c (by omega) hc r2)) (by omega) rfl (by omega) (by omega) rfl (Nat.le_of_ble_eq_true rfl) d_Mo_sum_152 ?_
      rintro _ _ _ ⟨rfl, rfl, rfl⟩
      refine g_imul d_Mo_sum_155 ?_
      refine g_eqi (pk_mul _ _) ?_
      refine g_goto (tgt := 160) d_Mo_sum_156 (by decide) ?_
      refine g_iadd d_Mo_sum_160 ?_
      refine g_eqi (nI_add _ _) ?_
      refine g_istore d_Mo_sum_161 (by decide) ?_
      refine g_iinc1 d_Mo_sum_163 rfl (by decide) ?_
      refine g_goto (tgt := 54) d_Mo_sum_166 (by decide) ?_
      exact ihd _ _ (hyes (by rw [hPd]; exact decide_eq_true hb_130))
  · rw [show fI k (mm j) = -1 from if_neg hkm]
    refine g_istore d_Mo_sum_123 (by decide) ?_
    refine g_iload d_Mo_sum_125 rfl ?_
    refine g_iload d_Mo_sum_127 rfl ?_
    refine g_iload_n d_Mo_sum_129 rfl ?_
    refine g_icmp_ne (tgt := 159) d_Mo_sum_130 (by decide) (fun hb_130 => ?_) (fun hb_130 => absurd hb_130 (m1_ne (by omega)))
    refine g_iconst (v := nI 0) d_Mo_sum_159 (by decide) ?_
    refine g_iadd d_Mo_sum_160 ?_
    refine g_eqi (nI_add _ _) ?_
    refine g_istore d_Mo_sum_161 (by decide) ?_
    refine g_iinc1 d_Mo_sum_163 rfl (by decide) ?_
    refine g_goto (tgt := 54) d_Mo_sum_166 (by decide) ?_
    exact ihd _ _ (hno (by rw [hPd]; exact decide_eq_false (by omega)))
theorem k_Mo_count (h : OM E M W th tn ts mm rr gn gs) (j v : Nat) (hj : j < 2) (hv : v < 3) : Ctr l E y_Mo_count 5 [.ref W, .int (nI j), .int (nI v)] N M 0 0 (g_ret (fun z N' M' => z = some (.int (nI (apk (fun p => decide (jdg (rr j) (mm j) p = v))))) ∧ N' = N ∧ OM E M' W (nI 0) tn ts mm rr gn gs ∧ ∀ x, (x < W ∨ W + 12 < x) → M' x = M x)) := by
  obtain ⟨⟨rc, pl, fa, hO⟩, hT, hL, hK, hS⟩ := h
  have h : OM E M W th tn ts mm rr gn gs := ⟨⟨rc, pl, fa, hO⟩, hT, hL, hK, hS⟩
  have hin := inI_yes (j := j) (k := 1) (by omega) (by omega)
  have hin2 := inI_yes (j := v) (k := 2) (by omega) (by omega)
  refine ctr_of [some (.ref W), some (.int (nI j)), some (.int (nI v))] (by decide) w_1084 rfl rfl (Nat.le_of_ble_eq_true rfl) (fun Γ => ?_)
  refine g_aload_n d_Mo_count_0 rfl ?_
  refine g_iload_n d_Mo_count_1 rfl ?_
  refine g_iconst (v := nI 0) d_Mo_count_2 (by decide) ?_
  refine g_iconst (v := nI 1) d_Mo_count_3 (by decide) ?_
  refine g_callS s_Mo_112 sv_Mo_in (g_of_val (k_Mo_in _ _ _)) (by omega) rfl (by omega) (by omega) rfl (Nat.le_of_ble_eq_true rfl) d_Mo_count_4 ?_
  rintro _ _ _ ⟨rfl, rfl, rfl⟩
  first | refine g_ifB_ne (tgt := 14) d_Mo_count_7 (by decide) (fun hb_7 => ?_) (fun hb_7 => ?_) | refine g_ifN_ne (tgt := 14) d_Mo_count_7 (by decide) (by omega) (fun hb_7 => ?_) (fun hb_7 => ?_)
  · refine g_iconst (v := nI 0) d_Mo_count_14 (by decide) ?_
    refine g_iload_n d_Mo_count_15 rfl ?_
    refine g_iconst (v := nI 0) d_Mo_count_16 (by decide) ?_
    refine g_iconst (v := nI 2) d_Mo_count_17 (by decide) ?_
    refine g_callS s_Mo_112 sv_Mo_in (g_of_val (k_Mo_in _ _ _)) (by omega) rfl (by omega) (by omega) rfl (Nat.le_of_ble_eq_true rfl) d_Mo_count_18 ?_
    rintro _ _ _ ⟨rfl, rfl, rfl⟩
    first | refine g_ifB_ne (tgt := 28) d_Mo_count_21 (by decide) (fun hb_21 => ?_) (fun hb_21 => ?_) | refine g_ifN_ne (tgt := 28) d_Mo_count_21 (by decide) (by omega) (fun hb_21 => ?_) (fun hb_21 => ?_)
    · refine g_iconst (v := nI 0) d_Mo_count_28 (by decide) ?_
      refine g_callV s_Mo_57 sv_Mo_refuse (by assumption) rfl (k_Mo_refuse hO false false) (by omega) rfl (by omega) (by omega) rfl (Nat.le_of_ble_eq_true rfl) d_Mo_count_29 ?_
      rintro v' N' M1 ⟨rfl, rfl, e1, f1⟩
      have hL1 := hL.kept (M' := M1) (fun x _ _ => f1 x (by omega))
      obtain ⟨⟨cn, cs, hC⟩, -⟩ := id hS
      have hC1 := hC.kept (M' := M1) (fun x _ => f1 x (by omega))
      first | refine g_ifB_eq (tgt := 37) d_Mo_count_32 (by decide) (fun hb_32 => ?_) (fun hb_32 => ?_) | refine g_ifN_eq (tgt := 37) d_Mo_count_32 (by decide) (by omega) (fun hb_32 => ?_) (fun hb_32 => ?_)
      · refine g_aload_n d_Mo_count_37 rfl ?_
        refine g_iload_n d_Mo_count_38 rfl ?_
        refine g_iconst (v := nI 0) d_Mo_count_39 (by decide) ?_
        refine g_iload_n d_Mo_count_40 rfl ?_
        refine g_callV s_Mo_156 sv_Mo_sum (by assumption) rfl (k_Mo_sum0 e1 hL1 hC1 j v hj hv) (by omega) rfl (by omega) (by omega) rfl (Nat.le_of_ble_eq_true rfl) d_Mo_count_41 ?_
        rintro v' N' M2 ⟨rfl, rfl, hC2, f2⟩
        exact g_ireturn rfl rfl (by omega) (by omega) d_Mo_count_44 ⟨_, rfl, rfl, rfl, (h.own e1 f1).cuts hC2 f2, fun x hx => (f2 x (by omega) (by omega)).trans (f1 x (by omega))⟩
      · cases hb_32
    · rw [hin2] at hb_21; cases hb_21
  · rw [hin] at hb_7; cases hb_7
theorem x_Mo_count (h : OM E M W th tn ts mm rr gn gs) (j : Nat) (hj : j < 2) (y : Int32) (hy : noN y 3) : Ctr l E y_Mo_count 5 [.ref W, .int (nI j), .int y] N M 0 0 (g_ret (fun v N' M' => v = some (.int (nI 0)) ∧ N' = N ∧ OM E M' W (nI 2) tn ts mm rr gn gs ∧ ∀ x, x ≠ W → M' x = M x)) := by
  have h0 := h
  obtain ⟨⟨rc, pl, fa, hO⟩, hT, hL, hK, hS⟩ := h
  have hin := inI_yes (j := j) (k := 1) (by omega) (by omega)
  have hin2 := inI_no (k := 2) hy (by omega)
  refine ctr_of [some (.ref W), some (.int (nI j)), some (.int y)] (by decide) w_1084 rfl rfl (Nat.le_of_ble_eq_true rfl) (fun Γ => ?_)
  refine g_aload_n d_Mo_count_0 rfl ?_
  refine g_iload_n d_Mo_count_1 rfl ?_
  refine g_iconst (v := nI 0) d_Mo_count_2 (by decide) ?_
  refine g_iconst (v := nI 1) d_Mo_count_3 (by decide) ?_
  refine g_callS s_Mo_112 sv_Mo_in (g_of_val (k_Mo_in _ _ _)) (by omega) rfl (by omega) (by omega) rfl (Nat.le_of_ble_eq_true rfl) d_Mo_count_4 ?_
  rintro _ _ _ ⟨rfl, rfl, rfl⟩
  first | refine g_ifB_ne (tgt := 14) d_Mo_count_7 (by decide) (fun hb_7 => ?_) (fun hb_7 => ?_) | refine g_ifN_ne (tgt := 14) d_Mo_count_7 (by decide) (by omega) (fun hb_7 => ?_) (fun hb_7 => ?_)
  · refine g_iconst (v := nI 0) d_Mo_count_14 (by decide) ?_
    refine g_iload_n d_Mo_count_15 rfl ?_
    refine g_iconst (v := nI 0) d_Mo_count_16 (by decide) ?_
    refine g_iconst (v := nI 2) d_Mo_count_17 (by decide) ?_
    refine g_callS s_Mo_112 sv_Mo_in (g_of_val (k_Mo_in _ _ _)) (by omega) rfl (by omega) (by omega) rfl (Nat.le_of_ble_eq_true rfl) d_Mo_count_18 ?_
    rintro _ _ _ ⟨rfl, rfl, rfl⟩
    first | refine g_ifB_ne (tgt := 28) d_Mo_count_21 (by decide) (fun hb_21 => ?_) (fun hb_21 => ?_) | refine g_ifN_ne (tgt := 28) d_Mo_count_21 (by decide) (by omega) (fun hb_21 => ?_) (fun hb_21 => ?_)
    · rw [hin2] at hb_21; cases hb_21
    · refine g_iconst (v := nI 1) d_Mo_count_24 (by decide) ?_
      refine g_goto (tgt := 29) d_Mo_count_25 (by decide) ?_
      refine g_callV s_Mo_57 sv_Mo_refuse (by assumption) rfl (k_Mo_refuse hO false true) (by omega) rfl (by omega) (by omega) rfl (Nat.le_of_ble_eq_true rfl) d_Mo_count_29 ?_
      rintro v' N' M1 ⟨rfl, rfl, e1, f1⟩
      first | refine g_ifB_eq (tgt := 37) d_Mo_count_32 (by decide) (fun hb_32 => ?_) (fun hb_32 => ?_) | refine g_ifN_eq (tgt := 37) d_Mo_count_32 (by decide) (by omega) (fun hb_32 => ?_) (fun hb_32 => ?_)
      · exact absurd hb_32 (by decide)
      · refine g_iconst (v := nI 0) d_Mo_count_35 (by decide) ?_
        exact g_ireturn rfl rfl (by omega) (by omega) d_Mo_count_36 ⟨_, rfl, rfl, rfl, h0.own e1 f1, f1⟩
  · rw [hin] at hb_7; cases hb_7
theorem xl_Mo_count (h : OM E M W th tn ts mm rr gn gs) (x y : Int32) (hx : noN x 2) : Ctr l E y_Mo_count 5 [.ref W, .int x, .int y] N M 0 0 (g_ret (fun v N' M' => v = some (.int (nI 0)) ∧ N' = N ∧ OM E M' W (nI 1) tn ts mm rr gn gs ∧ ∀ x, x ≠ W → M' x = M x)) := by
  have h0 := h
  obtain ⟨⟨rc, pl, fa, hO⟩, hT, hL, hK, hS⟩ := h
  have hin := inI_no (k := 1) hx (by omega)
  refine ctr_of [some (.ref W), some (.int x), some (.int y)] (by decide) w_1084 rfl rfl (Nat.le_of_ble_eq_true rfl) (fun Γ => ?_)
  refine g_aload_n d_Mo_count_0 rfl ?_
  refine g_iload_n d_Mo_count_1 rfl ?_
  refine g_iconst (v := nI 0) d_Mo_count_2 (by decide) ?_
  refine g_iconst (v := nI 1) d_Mo_count_3 (by decide) ?_
  refine g_callS s_Mo_112 sv_Mo_in (g_of_val (k_Mo_in _ _ _)) (by omega) rfl (by omega) (by omega) rfl (Nat.le_of_ble_eq_true rfl) d_Mo_count_4 ?_
  rintro _ _ _ ⟨rfl, rfl, rfl⟩
  first | refine g_ifB_ne (tgt := 14) d_Mo_count_7 (by decide) (fun hb_7 => ?_) (fun hb_7 => ?_) | refine g_ifN_ne (tgt := 14) d_Mo_count_7 (by decide) (by omega) (fun hb_7 => ?_) (fun hb_7 => ?_)
  · rw [hin] at hb_7; cases hb_7
  · refine g_iconst (v := nI 1) d_Mo_count_10 (by decide) ?_
    refine g_goto (tgt := 15) d_Mo_count_11 (by decide) ?_
    refine g_iload_n d_Mo_count_15 rfl ?_
    refine g_iconst (v := nI 0) d_Mo_count_16 (by decide) ?_
    refine g_iconst (v := nI 2) d_Mo_count_17 (by decide) ?_
    refine g_callS s_Mo_112 sv_Mo_in (g_of_val (k_Mo_in _ _ _)) (by omega) rfl (by omega) (by omega) rfl (Nat.le_of_ble_eq_true rfl) d_Mo_count_18 ?_
    rintro _ _ _ ⟨rfl, rfl, rfl⟩
    first | refine g_ifB_ne (tgt := 28) d_Mo_count_21 (by decide) (fun hb_21 => ?_) (fun hb_21 => ?_) | refine g_ifN_ne (tgt := 28) d_Mo_count_21 (by decide) (by omega) (fun hb_21 => ?_) (fun hb_21 => ?_)
    · refine g_iconst (v := nI 0) d_Mo_count_28 (by decide) ?_
      refine g_callV s_Mo_57 sv_Mo_refuse (by assumption) rfl (k_Mo_refuse hO true false) (by omega) rfl (by omega) (by omega) rfl (Nat.le_of_ble_eq_true rfl) d_Mo_count_29 ?_
      rintro v' N' M1 ⟨rfl, rfl, e1, f1⟩
      first | refine g_ifB_eq (tgt := 37) d_Mo_count_32 (by decide) (fun hb_32 => ?_) (fun hb_32 => ?_) | refine g_ifN_eq (tgt := 37) d_Mo_count_32 (by decide) (by omega) (fun hb_32 => ?_) (fun hb_32 => ?_)
      · exact absurd hb_32 (by decide)
      · refine g_iconst (v := nI 0) d_Mo_count_35 (by decide) ?_
        exact g_ireturn rfl rfl (by omega) (by omega) d_Mo_count_36 ⟨_, rfl, rfl, rfl, h0.own e1 f1, f1⟩
    · refine g_iconst (v := nI 1) d_Mo_count_24 (by decide) ?_
      refine g_goto (tgt := 29) d_Mo_count_25 (by decide) ?_
      refine g_callV s_Mo_57 sv_Mo_refuse (by assumption) rfl (k_Mo_refuse hO true true) (by omega) rfl (by omega) (by omega) rfl (Nat.le_of_ble_eq_true rfl) d_Mo_count_29 ?_
      rintro v' N' M1 ⟨rfl, rfl, e1, f1⟩
      first | refine g_ifB_eq (tgt := 37) d_Mo_count_32 (by decide) (fun hb_32 => ?_) (fun hb_32 => ?_) | refine g_ifN_eq (tgt := 37) d_Mo_count_32 (by decide) (by omega) (fun hb_32 => ?_) (fun hb_32 => ?_)
      · exact absurd hb_32 (by decide)
      · refine g_iconst (v := nI 0) d_Mo_count_35 (by decide) ?_
        exact g_ireturn rfl rfl (by omega) (by omega) d_Mo_count_36 ⟨_, rfl, rfl, rfl, h0.own e1 f1, f1⟩
theorem k_Mo_used (h : OM E M W th tn ts mm rr gn gs) (j i : Nat) (hj : j < 2) (hi : i < mm j) : Ctr l E y_Mo_used 5 [.ref W, .int (nI j), .int (nI i)] N M 0 0 (g_ret (fun z N' M' => z = some (.int (nI (apk (fun p => decide (fi (fun k => r_m (rr j k) p) (mm j) = i))))) ∧ N' = N ∧ OM E M' W (nI 0) tn ts mm rr gn gs ∧ ∀ x, (x < W ∨ W + 12 < x) → M' x = M x)) := by
  obtain ⟨⟨rc, pl, fa, hO⟩, hT, hL, hK, hS⟩ := h
  have h : OM E M W th tn ts mm rr gn gs := ⟨⟨rc, pl, fa, hO⟩, hT, hL, hK, hS⟩
  have hin := inI_yes (j := j) (k := 1) (by omega) (by omega)
  have hnr := fun (N : Nat) => k_Mo_noRule (l := l) (N := N) hO hL.2.2.2.2 j hj (nI i)
  rw [inC_yes hi (hL.1 j hj).1] at hnr
  refine ctr_of [some (.ref W), some (.int (nI j)), some (.int (nI i))] (by decide) w_1108 rfl rfl (Nat.le_of_ble_eq_true rfl) (fun Γ => ?_)
  refine g_aload_n d_Mo_used_0 rfl ?_
  refine g_iload_n d_Mo_used_1 rfl ?_
  refine g_iconst (v := nI 0) d_Mo_used_2 (by decide) ?_
  refine g_iconst (v := nI 1) d_Mo_used_3 (by decide) ?_
  refine g_callS s_Mo_112 sv_Mo_in (g_of_val (k_Mo_in _ _ _)) (by omega) rfl (by omega) (by omega) rfl (Nat.le_of_ble_eq_true rfl) d_Mo_used_4 ?_
  rintro _ _ _ ⟨rfl, rfl, rfl⟩
  first | refine g_ifB_ne (tgt := 14) d_Mo_used_7 (by decide) (fun hb_7 => ?_) (fun hb_7 => ?_) | refine g_ifN_ne (tgt := 14) d_Mo_used_7 (by decide) (by omega) (fun hb_7 => ?_) (fun hb_7 => ?_)
  · refine g_iconst (v := nI 0) d_Mo_used_14 (by decide) ?_
    refine g_aload_n d_Mo_used_15 rfl ?_
    refine g_iload_n d_Mo_used_16 rfl ?_
    refine g_iload_n d_Mo_used_17 rfl ?_
    refine g_callV s_Mo_123 sv_Mo_noRule (by assumption) rfl (g_of_val (hnr _)) (by omega) rfl (by omega) (by omega) rfl (Nat.le_of_ble_eq_true rfl) d_Mo_used_18 ?_
    rintro _ _ _ ⟨rfl, rfl, rfl⟩
    refine g_callV s_Mo_57 sv_Mo_refuse (by assumption) rfl (k_Mo_refuse hO false (!true)) (by omega) rfl (by omega) (by omega) rfl (Nat.le_of_ble_eq_true rfl) d_Mo_used_21 ?_
    rintro v' N' M1 ⟨rfl, rfl, e1, f1⟩
    have hL1 := hL.kept (M' := M1) (fun x _ _ => f1 x (by omega))
    obtain ⟨⟨cn, cs, hC⟩, -⟩ := id hS
    have hC1 := hC.kept (M' := M1) (fun x _ => f1 x (by omega))
    first | refine g_ifB_eq (tgt := 29) d_Mo_used_24 (by decide) (fun hb_24 => ?_) (fun hb_24 => ?_) | refine g_ifN_eq (tgt := 29) d_Mo_used_24 (by decide) (by omega) (fun hb_24 => ?_) (fun hb_24 => ?_)
    · refine g_aload_n d_Mo_used_29 rfl ?_
      refine g_iload_n d_Mo_used_30 rfl ?_
      refine g_iconst (v := nI 1) d_Mo_used_31 (by decide) ?_
      refine g_iload_n d_Mo_used_32 rfl ?_
      refine g_callV s_Mo_156 sv_Mo_sum (by assumption) rfl (k_Mo_sum1 e1 hL1 hC1 j i hj hi) (by omega) rfl (by omega) (by omega) rfl (Nat.le_of_ble_eq_true rfl) d_Mo_used_33 ?_
      rintro v' N' M2 ⟨rfl, rfl, hC2, f2⟩
      exact g_ireturn rfl rfl (by omega) (by omega) d_Mo_used_36 ⟨_, rfl, rfl, rfl, (h.own e1 f1).cuts hC2 f2, fun x hx => (f2 x (by omega) (by omega)).trans (f1 x (by omega))⟩
    · exact absurd hb_24 (by decide)
  · rw [hin] at hb_7; cases hb_7
theorem x_Mo_used (h : OM E M W th tn ts mm rr gn gs) (j : Nat) (hj : j < 2) (y : Int32) (hy : noN y (mm j)) : Ctr l E y_Mo_used 5 [.ref W, .int (nI j), .int y] N M 0 0 (g_ret (fun v N' M' => v = some (.int (nI 0)) ∧ N' = N ∧ OM E M' W (nI 2) tn ts mm rr gn gs ∧ ∀ x, x ≠ W → M' x = M x)) := by
  have h0 := h
  obtain ⟨⟨rc, pl, fa, hO⟩, hT, hL, hK, hS⟩ := h
  have hin := inI_yes (j := j) (k := 1) (by omega) (by omega)
  have hnr := fun (N : Nat) => k_Mo_noRule (l := l) (N := N) hO hL.2.2.2.2 j hj y
  rw [inC_no hy (hL.1 j hj).1] at hnr
  refine ctr_of [some (.ref W), some (.int (nI j)), some (.int y)] (by decide) w_1108 rfl rfl (Nat.le_of_ble_eq_true rfl) (fun Γ => ?_)
  refine g_aload_n d_Mo_used_0 rfl ?_
  refine g_iload_n d_Mo_used_1 rfl ?_
  refine g_iconst (v := nI 0) d_Mo_used_2 (by decide) ?_
  refine g_iconst (v := nI 1) d_Mo_used_3 (by decide) ?_
  refine g_callS s_Mo_112 sv_Mo_in (g_of_val (k_Mo_in _ _ _)) (by omega) rfl (by omega) (by omega) rfl (Nat.le_of_ble_eq_true rfl) d_Mo_used_4 ?_
  rintro _ _ _ ⟨rfl, rfl, rfl⟩
  first | refine g_ifB_ne (tgt := 14) d_Mo_used_7 (by decide) (fun hb_7 => ?_) (fun hb_7 => ?_) | refine g_ifN_ne (tgt := 14) d_Mo_used_7 (by decide) (by omega) (fun hb_7 => ?_) (fun hb_7 => ?_)
  · refine g_iconst (v := nI 0) d_Mo_used_14 (by decide) ?_
    refine g_aload_n d_Mo_used_15 rfl ?_
    refine g_iload_n d_Mo_used_16 rfl ?_
    refine g_iload_n d_Mo_used_17 rfl ?_
    refine g_callV s_Mo_123 sv_Mo_noRule (by assumption) rfl (g_of_val (hnr _)) (by omega) rfl (by omega) (by omega) rfl (Nat.le_of_ble_eq_true rfl) d_Mo_used_18 ?_
    rintro _ _ _ ⟨rfl, rfl, rfl⟩
    refine g_callV s_Mo_57 sv_Mo_refuse (by assumption) rfl (k_Mo_refuse hO false (!false)) (by omega) rfl (by omega) (by omega) rfl (Nat.le_of_ble_eq_true rfl) d_Mo_used_21 ?_
    rintro v' N' M1 ⟨rfl, rfl, e1, f1⟩
    first | refine g_ifB_eq (tgt := 29) d_Mo_used_24 (by decide) (fun hb_24 => ?_) (fun hb_24 => ?_) | refine g_ifN_eq (tgt := 29) d_Mo_used_24 (by decide) (by omega) (fun hb_24 => ?_) (fun hb_24 => ?_)
    · exact absurd hb_24 (by decide)
    · refine g_iconst (v := nI 0) d_Mo_used_27 (by decide) ?_
      exact g_ireturn rfl rfl (by omega) (by omega) d_Mo_used_28 ⟨_, rfl, rfl, rfl, h0.own e1 f1, f1⟩
  · rw [hin] at hb_7; cases hb_7
theorem xl_Mo_used (h : OM E M W th tn ts mm rr gn gs) (x y : Int32) (hx : noN x 2) : Ctr l E y_Mo_used 5 [.ref W, .int x, .int y] N M 0 0 (g_ret (fun v N' M' => v = some (.int (nI 0)) ∧ N' = N ∧ OM E M' W (nI 1) tn ts mm rr gn gs ∧ ∀ x, x ≠ W → M' x = M x)) := by
  have h0 := h
  obtain ⟨⟨rc, pl, fa, hO⟩, hT, hL, hK, hS⟩ := h
  have hin := inI_no (k := 1) hx (by omega)
  refine ctr_of [some (.ref W), some (.int x), some (.int y)] (by decide) w_1108 rfl rfl (Nat.le_of_ble_eq_true rfl) (fun Γ => ?_)
  refine g_aload_n d_Mo_used_0 rfl ?_
  refine g_iload_n d_Mo_used_1 rfl ?_
  refine g_iconst (v := nI 0) d_Mo_used_2 (by decide) ?_
  refine g_iconst (v := nI 1) d_Mo_used_3 (by decide) ?_
  refine g_callS s_Mo_112 sv_Mo_in (g_of_val (k_Mo_in _ _ _)) (by omega) rfl (by omega) (by omega) rfl (Nat.le_of_ble_eq_true rfl) d_Mo_used_4 ?_
  rintro _ _ _ ⟨rfl, rfl, rfl⟩
  first | refine g_ifB_ne (tgt := 14) d_Mo_used_7 (by decide) (fun hb_7 => ?_) (fun hb_7 => ?_) | refine g_ifN_ne (tgt := 14) d_Mo_used_7 (by decide) (by omega) (fun hb_7 => ?_) (fun hb_7 => ?_)
  · rw [hin] at hb_7; cases hb_7
  · refine g_iconst (v := nI 1) d_Mo_used_10 (by decide) ?_
    refine g_goto (tgt := 15) d_Mo_used_11 (by decide) ?_
    refine g_aload_n d_Mo_used_15 rfl ?_
    refine g_iload_n d_Mo_used_16 rfl ?_
    refine g_iload_n d_Mo_used_17 rfl ?_
    refine g_callV s_Mo_123 sv_Mo_noRule (by assumption) rfl (g_of_val (kx_Mo_noRule hO x y hx)) (by omega) rfl (by omega) (by omega) rfl (Nat.le_of_ble_eq_true rfl) d_Mo_used_18 ?_
    rintro _ _ _ ⟨rfl, rfl, rfl⟩
    refine g_callV s_Mo_57 sv_Mo_refuse (by assumption) rfl (k_Mo_refuse hO true false) (by omega) rfl (by omega) (by omega) rfl (Nat.le_of_ble_eq_true rfl) d_Mo_used_21 ?_
    rintro v' N' M1 ⟨rfl, rfl, e1, f1⟩
    first | refine g_ifB_eq (tgt := 29) d_Mo_used_24 (by decide) (fun hb_24 => ?_) (fun hb_24 => ?_) | refine g_ifN_eq (tgt := 29) d_Mo_used_24 (by decide) (by omega) (fun hb_24 => ?_) (fun hb_24 => ?_)
    · exact absurd hb_24 (by decide)
    · refine g_iconst (v := nI 0) d_Mo_used_27 (by decide) ?_
      exact g_ireturn rfl rfl (by omega) (by omega) d_Mo_used_28 ⟨_, rfl, rfl, rfl, h0.own e1 f1, f1⟩
end MSUM

