/-! the model sets both lists against one another -/
theorem byr_unl (mm : Nat → Nat) (rr : Nat → Nat → Rl) : byr mm rr 0 1 (unl (rr 0) (mm 0) (rr 1) (mm 1)) := fun p q h => by
  unfold unl
  rw [jdg_congr (fun i hi => h 0 i (by omega) (by omega) hi), jdg_congr (rs := rr 1) (fun i hi => h 1 i (by omega) (by omega) hi)]
theorem box_c {mm : Nat → Nat} {rr : Nat → Nat → Rl} {a b : Nat} {cn : Nat → Nat} {cs : Nat → Nat → Nat} {P : Nat → Bool} (hg : ∀ g, g < 4 → gdc mm rr a b cn cs g) (hP : byr mm rr a b P) :
    (∀ k, k < cn 0 → ∀ x, cs 0 k ≤ x → x < enr (cs 0) (cn 0) (mst 0 + 1) k → ∀ y z d, y ≤ 255 → z ≤ 1023 → d ≤ 3 → P (pkt x y z d) = P (pkt (cs 0 k) y z d)) ∧
    (∀ k, k < cn 1 → ∀ x, cs 1 k ≤ x → x < enr (cs 1) (cn 1) (mst 1 + 1) k → ∀ y z d, y ≤ 255 → z ≤ 1023 → d ≤ 3 → P (pkt y x z d) = P (pkt y (cs 1 k) z d)) ∧
    ∀ k, k < cn 2 → ∀ x, cs 2 k ≤ x → x < enr (cs 2) (cn 2) (mst 2 + 1) k → ∀ y z d, y ≤ 255 → z ≤ 255 → d ≤ 3 → P (pkt y z x d) = P (pkt y z (cs 2 k) d) := by
  obtain ⟨r0, q0, -⟩ := (hg 0 (by omega)).1 (by omega)
  obtain ⟨r1, q1, -⟩ := (hg 1 (by omega)).1 (by omega)
  obtain ⟨r2, q2, -⟩ := (hg 2 (by omega)).1 (by omega)
  have en : ∀ (st : Nat → Nat) n t k, rows_ok st n t → enr st n t k ≤ t := fun st n t k h => by
    unfold enr
    split
    · exact Nat.le_of_lt (rows_top h (by omega))
    · exact Nat.le_refl _
  have m0 : mst 0 = 255 := rfl
  have m1 : mst 1 = 255 := rfl
  have m2 : mst 2 = 1023 := rfl
  refine ⟨fun k hk x x1 x2 y z d hy hz hd => hP _ _ (fun j i j1 j2 hi => ?_), fun k hk x x1 x2 y z d hy hz hd => hP _ _ (fun j i j1 j2 hi => ?_), fun k hk x x1 x2 y z d hy hz hd => hP _ _ (fun j i j1 j2 hi => ?_)⟩
  · have := en _ _ _ k r0
    rw [r_m_pkt _ (by omega) hy hz hd, r_m_pkt _ (by omega) hy hz hd, mf_row r0 (q0 j j1 j2 i hi).1 (q0 j j1 j2 i hi).2 hk x1 x2]
  · have := en _ _ _ k r1
    rw [r_m_pkt _ hy (by omega) hz hd, r_m_pkt _ hy (by omega) hz hd, mf_row r1 (q1 j j1 j2 i hi).1 (q1 j j1 j2 i hi).2 hk x1 x2]
  · have := en _ _ _ k r2
    rw [r_m_pkt _ hy hz (by omega) hd, r_m_pkt _ hy hz (by omega) hd, mf_row r2 (q2 j j1 j2 i hi).1 (q2 j j1 j2 i hi).2 hk x1 x2]
def bdr (cn : Nat → Nat) (cs : Nat → Nat → Nat) (f k : Nat) : Nat := if k < cn f then cs f k else mst f + 1
theorem bdr_at {cn : Nat → Nat} {cs : Nat → Nat → Nat} {f k : Nat} (h : k < cn f) : bdr cn cs f k = cs f k := if_pos h
theorem bdr_0 {cn : Nat → Nat} {cs : Nat → Nat → Nat} {f : Nat} (h : rows_ok (cs f) (cn f) (mst f + 1)) : bdr cn cs f 0 = 0 := (bdr_at h.2.1).trans h.1
theorem bdr_end (cn : Nat → Nat) (cs : Nat → Nat → Nat) (f : Nat) : bdr cn cs f (cn f) = mst f + 1 := if_neg (Nat.lt_irrefl _)
section MDIFF
variable {l : Launch} {E : gE} {N : Nat} {M : gM} {W tn : Nat} {th sz lk rc pl fa : Int32} {ts cn mm : Nat → Nat} {cs : Nat → Nat → Nat} {rr : Nat → Nat → Rl} {gn : Nat} {gs : Nat → Nat}
theorem k_Mo_differS (h : M W = some (.inr (10, mo W th sz lk rc pl fa))) (hL : o_ml E M W mm rr) (hC : o_cu E M W cn cs) : Ctr l E y_Mo_differ 4 [.ref W, .int (-1)] N M 0 0 (g_ret (fun z N' M' => z = some (.int (nI (apk (unl (rr 0) (mm 0) (rr 1) (mm 1))))) ∧ N' = N ∧ (∃ cn' cs', o_cu E M' W cn' cs') ∧ ∀ x, x ≠ W + 7 → x ≠ W + 8 → M' x = M x)) := by
  obtain ⟨P, hP⟩ : ∃ P : Nat → Bool, P = unl (rr 0) (mm 0) (rr 1) (mm 1) := ⟨_, rfl⟩
  have hby : byr mm rr 0 1 P := by rw [hP]; exact byr_unl mm rr
  rw [← hP]
  refine ctr_of [some (.ref W), some (.int (-1)), none, none, none, none, none, none, none, none] (by decide) w_1120 rfl rfl (Nat.le_of_ble_eq_true rfl) (fun Γ => ?_)
  refine g_aload_n d_Mo_differ_0 rfl ?_
  refine g_iconst (v := nI 0) d_Mo_differ_1 (by decide) ?_
  refine g_iconst (v := nI 1) d_Mo_differ_2 (by decide) ?_
  refine g_callV s_Mo_150 sv_Mo_cutBy (by assumption) rfl (k_Mo_cutBy h hL hC 0 1 (by omega) (by omega)) (by omega) rfl (by omega) (by omega) rfl (Nat.le_of_ble_eq_true rfl) d_Mo_differ_3 ?_
  rintro v' N' M1 ⟨rfl, rfl, ⟨cn1, cs1, hC1, hg⟩, f1⟩
  have h1 := (f1 W (by omega) (by omega)).trans h
  have hL1 := hL.kept (M' := M1) (fun x _ _ => f1 x (by omega) (by omega))
  obtain ⟨q0, q1, q2⟩ := gdc3 hg
  obtain ⟨r0, -, -⟩ := (hg 0 (by omega)).1 (by omega)
  obtain ⟨r1, -, -⟩ := (hg 1 (by omega)).1 (by omega)
  obtain ⟨r2, -, -⟩ := (hg 2 (by omega)).1 (by omega)
  obtain ⟨⟨fm, m1, m2⟩, -⟩ := id hC1
  have n0 := m2 0 (by omega)
  have n1 := m2 1 (by omega)
  have n2 := m2 2 (by omega)
  have hbx := bxs_apk hg hby
  rw [bxs_sA] at hbx
  refine g_iconst (v := nI 0) d_Mo_differ_6 (by decide) ?_
  refine g_istore_n d_Mo_differ_7 (by decide) ?_
  refine g_iconst (v := nI 0) d_Mo_differ_8 (by decide) ?_
  refine g_istore_n d_Mo_differ_9 (by decide) ?_
  refine g_for (P := fun a => ∀ (S : Nat) (y4 y5 y6 y7 y8 y9 : Option Value), (S = sm (sA P cn1 cs1) a) → G _ _ _ _ _ _ _ _ _ _ _ _ 10 [some (.ref W), some (.int (-1)), some (.int (nI S)), some (.int (nI a)), y4, y5, y6, y7, y8, y9] [] _ M1 0 0) (e := cn1 0) ?_ ?_ 0 (by omega) 0 none none none none none none rfl
  · intro S y4 y5 y6 y7 y8 y9 hS
    refine g_iload_n d_Mo_differ_10 rfl ?_
    refine g_aload_n d_Mo_differ_11 rfl ?_
    refine g_get f_Mo_31 (by assumption) rfl d_Mo_differ_12 ?_
    refine g_iconst (v := nI 0) d_Mo_differ_15 (by decide) ?_
    refine g_iald _ (by assumption) rfl (by omega) (by decide) d_Mo_differ_16 ?_
    refine g_eqi n0.1 ?_
    rw [hbx] at hS
    subst hS
    refine g_icmpN_ge (tgt := 197) d_Mo_differ_17 (by decide) (by omega) (by omega) (fun hb_17 => ?_) (fun hb_17 => ?_)
    · refine g_iload_n d_Mo_differ_197 rfl ?_
      refine g_if_ge (tgt := 205) d_Mo_differ_198 (by decide) (fun hb => absurd hb (by decide)) (fun _ => ?_)
      refine g_iload_n d_Mo_differ_201 rfl ?_
      refine g_goto (tgt := 206) d_Mo_differ_202 (by decide) ?_
      exact g_ireturn rfl rfl (by omega) (by omega) d_Mo_differ_206 ⟨_, rfl, rfl, rfl, ⟨cn1, cs1, hC1⟩, f1⟩
    · omega
  intro a ha iha S y4 y5 y6 y7 y8 y9 hS
  have ta := q0 a ha
  refine g_iload_n d_Mo_differ_10 rfl ?_
  refine g_aload_n d_Mo_differ_11 rfl ?_
  refine g_get f_Mo_31 (by assumption) rfl d_Mo_differ_12 ?_
  refine g_iconst (v := nI 0) d_Mo_differ_15 (by decide) ?_
  refine g_iald _ (by assumption) rfl (by omega) (by decide) d_Mo_differ_16 ?_
  refine g_eqi n0.1 ?_
  refine g_icmpN_ge (tgt := 197) d_Mo_differ_17 (by decide) (by omega) (by omega) (fun hb_17 => ?_) (fun hb_17 => ?_)
  · omega
  refine g_iconst (v := nI 0) d_Mo_differ_20 (by decide) ?_
  refine g_istore d_Mo_differ_21 (by decide) ?_
  refine g_for (P := fun b => ∀ (S : Nat) (y5 y6 y7 y8 y9 : Option Value), (S = sm (sA P cn1 cs1) a + sm (sB P cn1 cs1 a) b) → G _ _ _ _ _ _ _ _ _ _ _ _ 23 [some (.ref W), some (.int (-1)), some (.int (nI S)), some (.int (nI a)), some (.int (nI b)), y5, y6, y7, y8, y9] [] _ M1 0 0) (e := cn1 1) ?_ ?_ 0 (by omega) S y5 y6 y7 y8 y9 hS
  · intro S y5 y6 y7 y8 y9 hS
    refine g_iload d_Mo_differ_23 rfl ?_
    refine g_aload_n d_Mo_differ_25 rfl ?_
    refine g_get f_Mo_31 (by assumption) rfl d_Mo_differ_26 ?_
    refine g_iconst (v := nI 1) d_Mo_differ_29 (by decide) ?_
    refine g_iald _ (by assumption) rfl (by omega) (by decide) d_Mo_differ_30 ?_
    refine g_eqi n1.1 ?_
    refine g_icmpN_ge (tgt := 191) d_Mo_differ_31 (by decide) (by omega) (by omega) (fun hb_31 => ?_) (fun hb_31 => ?_)
    · refine g_iinc1 d_Mo_differ_191 rfl (by decide) ?_
      refine g_goto (tgt := 10) d_Mo_differ_194 (by decide) ?_
      exact iha S _ _ _ _ _ _ hS
    · omega
  intro b hb ihb S y5 y6 y7 y8 y9 hS
  have tb := q1 b hb
  refine g_iload d_Mo_differ_23 rfl ?_
  refine g_aload_n d_Mo_differ_25 rfl ?_
  refine g_get f_Mo_31 (by assumption) rfl d_Mo_differ_26 ?_
  refine g_iconst (v := nI 1) d_Mo_differ_29 (by decide) ?_
  refine g_iald _ (by assumption) rfl (by omega) (by decide) d_Mo_differ_30 ?_
  refine g_eqi n1.1 ?_
  refine g_icmpN_ge (tgt := 191) d_Mo_differ_31 (by decide) (by omega) (by omega) (fun hb_31 => ?_) (fun hb_31 => ?_)
  · omega
  refine g_iconst (v := nI 0) d_Mo_differ_34 (by decide) ?_
  refine g_istore d_Mo_differ_35 (by decide) ?_
  refine g_for (P := fun c => ∀ (S : Nat) (y6 y7 y8 y9 : Option Value), (S = sm (sA P cn1 cs1) a + sm (sB P cn1 cs1 a) b + sm (sC P cn1 cs1 a b) c) → G _ _ _ _ _ _ _ _ _ _ _ _ 37 [some (.ref W), some (.int (-1)), some (.int (nI S)), some (.int (nI a)), some (.int (nI b)), some (.int (nI c)), y6, y7, y8, y9] [] _ M1 0 0) (e := cn1 2) ?_ ?_ 0 (by omega) S y6 y7 y8 y9 hS
  · intro S y6 y7 y8 y9 hS
    refine g_iload d_Mo_differ_37 rfl ?_
    refine g_aload_n d_Mo_differ_39 rfl ?_
    refine g_get f_Mo_31 (by assumption) rfl d_Mo_differ_40 ?_
    refine g_iconst (v := nI 2) d_Mo_differ_43 (by decide) ?_
    refine g_iald _ (by assumption) rfl (by omega) (by decide) d_Mo_differ_44 ?_
    refine g_eqi n2.1 ?_
    refine g_icmpN_ge (tgt := 185) d_Mo_differ_45 (by decide) (by omega) (by omega) (fun hb_45 => ?_) (fun hb_45 => ?_)
    · refine g_iinc1 d_Mo_differ_185 rfl (by decide) ?_
      refine g_goto (tgt := 23) d_Mo_differ_188 (by decide) ?_
      exact ihb S _ _ _ _ _ (hS.trans (Nat.add_assoc _ _ _))
    · omega
  intro c hc ihc S y6 y7 y8 y9 hS
  have tc := q2 c hc
  refine g_iload d_Mo_differ_37 rfl ?_
  refine g_aload_n d_Mo_differ_39 rfl ?_
  refine g_get f_Mo_31 (by assumption) rfl d_Mo_differ_40 ?_
  refine g_iconst (v := nI 2) d_Mo_differ_43 (by decide) ?_
  refine g_iald _ (by assumption) rfl (by omega) (by decide) d_Mo_differ_44 ?_
  refine g_eqi n2.1 ?_
  refine g_icmpN_ge (tgt := 185) d_Mo_differ_45 (by decide) (by omega) (by omega) (fun hb_45 => ?_) (fun hb_45 => ?_)
  · omega
  refine g_iconst (v := nI 0) d_Mo_differ_48 (by decide) ?_
  refine g_istore d_Mo_differ_49 (by decide) ?_
  refine g_for (P := fun d => ∀ (S : Nat) (y7 y8 y9 : Option Value), (S = sm (sA P cn1 cs1) a + sm (sB P cn1 cs1 a) b + sm (sC P cn1 cs1 a b) c + sm (sD P cn1 cs1 a b c) d) → G _ _ _ _ _ _ _ _ _ _ _ _ 51 [some (.ref W), some (.int (-1)), some (.int (nI S)), some (.int (nI a)), some (.int (nI b)), some (.int (nI c)), some (.int (nI d)), y7, y8, y9] [] _ M1 0 0) (e := 4) ?_ ?_ 0 (by omega) S y7 y8 y9 hS
  · intro S y7 y8 y9 hS
    refine g_iload d_Mo_differ_51 rfl ?_
    refine g_iconst (v := nI 4) d_Mo_differ_53 (by decide) ?_
    refine g_icmpN_ge (tgt := 179) d_Mo_differ_54 (by decide) (by omega) (by omega) (fun hb_54 => ?_) (fun hb_54 => ?_)
    · refine g_iinc1 d_Mo_differ_179 rfl (by decide) ?_
      refine g_goto (tgt := 37) d_Mo_differ_182 (by decide) ?_
      exact ihc S _ _ _ _ (hS.trans (Nat.add_assoc _ _ _))
    · omega
  intro d hd ihd S y7 y8 y9 hS
  have hPd : P (pkt (cs1 0 a) (cs1 1 b) (cs1 2 c) d) = decide (jdg (rr 0) (mm 0) (pkt (cs1 0 a) (cs1 1 b) (cs1 2 c) d) ≠ jdg (rr 1) (mm 1) (pkt (cs1 0 a) (cs1 1 b) (cs1 2 c) d)) := by rw [hP]; rfl
  have lt0 := jdg_lt3 (hL.1 0 (by omega)).2 (pkt (cs1 0 a) (cs1 1 b) (cs1 2 c) d)
  have lt1 := jdg_lt3 (hL.1 1 (by omega)).2 (pkt (cs1 0 a) (cs1 1 b) (cs1 2 c) d)
  have hno : P (pkt (cs1 0 a) (cs1 1 b) (cs1 2 c) d) = false → S = sm (sA P cn1 cs1) a + sm (sB P cn1 cs1 a) b + sm (sC P cn1 cs1 a b) c + sm (sD P cn1 cs1 a b c) (d + 1) := by
    intro e
    have e2 : sD P cn1 cs1 a b c d = 0 := by unfold sD; rw [if_neg (by rw [e]; decide)]
    show S = _ + (sm (sD P cn1 cs1 a b c) d + sD P cn1 cs1 a b c d)
    rw [e2]
    exact hS
  have hyes : P (pkt (cs1 0 a) (cs1 1 b) (cs1 2 c) d) = true → S + wdt cn1 cs1 0 a * wdt cn1 cs1 1 b * wdt cn1 cs1 2 c = sm (sA P cn1 cs1) a + sm (sB P cn1 cs1 a) b + sm (sC P cn1 cs1 a b) c + sm (sD P cn1 cs1 a b c) (d + 1) := by
    intro e
    have e2 : sD P cn1 cs1 a b c d = wdt cn1 cs1 0 a * wdt cn1 cs1 1 b * wdt cn1 cs1 2 c := by unfold sD; rw [if_pos e]
    show _ = _ + (sm (sD P cn1 cs1 a b c) d + sD P cn1 cs1 a b c d)
    rw [e2, hS, Nat.add_assoc _ (sm (sD P cn1 cs1 a b c) d)]
  refine g_iload d_Mo_differ_51 rfl ?_
  refine g_iconst (v := nI 4) d_Mo_differ_53 (by decide) ?_
  refine g_icmpN_ge (tgt := 179) d_Mo_differ_54 (by decide) (by omega) (by omega) (fun hb_54 => ?_) (fun hb_54 => ?_)
  · omega
  refine g_aload_n d_Mo_differ_57 rfl ?_
  refine g_iconst (v := nI 0) d_Mo_differ_58 (by decide) ?_
  refine g_iload_n d_Mo_differ_59 rfl ?_
  refine g_callV s_Mo_144 sv_Mo_cut (by assumption) rfl (g_of_val (k_Mo_cut h1 hC1 0 a (by omega) ha)) (by omega) rfl (by omega) (by omega) rfl (Nat.le_of_ble_eq_true rfl) d_Mo_differ_60 ?_
  rintro _ _ _ ⟨rfl, rfl, rfl⟩
  refine g_istore d_Mo_differ_63 (by decide) ?_
  refine g_aload_n d_Mo_differ_65 rfl ?_
  refine g_iconst (v := nI 1) d_Mo_differ_66 (by decide) ?_
  refine g_iload d_Mo_differ_67 rfl ?_
  refine g_callV s_Mo_144 sv_Mo_cut (by assumption) rfl (g_of_val (k_Mo_cut h1 hC1 1 b (by omega) hb)) (by omega) rfl (by omega) (by omega) rfl (Nat.le_of_ble_eq_true rfl) d_Mo_differ_69 ?_
  rintro _ _ _ ⟨rfl, rfl, rfl⟩
  refine g_istore d_Mo_differ_72 (by decide) ?_
  refine g_aload_n d_Mo_differ_74 rfl ?_
  refine g_iconst (v := nI 2) d_Mo_differ_75 (by decide) ?_
  refine g_iload d_Mo_differ_76 rfl ?_
  refine g_callV s_Mo_144 sv_Mo_cut (by assumption) rfl (g_of_val (k_Mo_cut h1 hC1 2 c (by omega) hc)) (by omega) rfl (by omega) (by omega) rfl (Nat.le_of_ble_eq_true rfl) d_Mo_differ_78 ?_
  rintro _ _ _ ⟨rfl, rfl, rfl⟩
  refine g_istore d_Mo_differ_81 (by decide) ?_
  refine g_aload_n d_Mo_differ_83 rfl ?_
  refine g_iconst (v := nI 0) d_Mo_differ_84 (by decide) ?_
  refine g_iload d_Mo_differ_85 rfl ?_
  refine g_iload d_Mo_differ_87 rfl ?_
  refine g_iload d_Mo_differ_89 rfl ?_
  refine g_iload d_Mo_differ_91 rfl ?_
  refine g_callV s_Mo_141 sv_Mo_verdictBy (by assumption) rfl (g_of_val (k_Mo_verdictBy h1 hL1 0 (cs1 0 a) (cs1 1 b) (cs1 2 c) d (by omega) ta tb tc (by omega))) (by omega) rfl (by omega) (by omega) rfl (Nat.le_of_ble_eq_true rfl) d_Mo_differ_93 ?_
  rintro _ _ _ ⟨rfl, rfl, rfl⟩
  refine g_aload_n d_Mo_differ_96 rfl ?_
  refine g_iconst (v := nI 1) d_Mo_differ_97 (by decide) ?_
  refine g_iload d_Mo_differ_98 rfl ?_
  refine g_iload d_Mo_differ_100 rfl ?_
  refine g_iload d_Mo_differ_102 rfl ?_
  refine g_iload d_Mo_differ_104 rfl ?_
  refine g_callV s_Mo_141 sv_Mo_verdictBy (by assumption) rfl (g_of_val (k_Mo_verdictBy h1 hL1 1 (cs1 0 a) (cs1 1 b) (cs1 2 c) d (by omega) ta tb tc (by omega))) (by omega) rfl (by omega) (by omega) rfl (Nat.le_of_ble_eq_true rfl) d_Mo_differ_106 ?_
  rintro _ _ _ ⟨rfl, rfl, rfl⟩
  refine g_icmpN_eq (tgt := 173) d_Mo_differ_109 (by decide) (by omega) (by omega) (fun hb_109 => ?_) (fun hb_109 => ?_)
  · refine g_iinc1 d_Mo_differ_173 rfl (by decide) ?_
    refine g_goto (tgt := 51) d_Mo_differ_176 (by decide) ?_
    exact ihd S _ _ _ (hno (by rw [hPd]; exact decide_eq_false (fun z => z hb_109)))
  · refine g_iload_n d_Mo_differ_112 rfl ?_
    refine g_aload_n d_Mo_differ_113 rfl ?_
    refine g_iconst (v := nI 0) d_Mo_differ_114 (by decide) ?_
    refine g_iload_n d_Mo_differ_115 rfl ?_
    refine g_callV s_Mo_153 sv_Mo_width (by assumption) rfl (g_of_val (k_Mo_width h1 hC1 0 a (by omega) ha r0)) (by omega) rfl (by omega) (by omega) rfl (Nat.le_of_ble_eq_true rfl) d_Mo_differ_116 ?_
    rintro _ _ _ ⟨rfl, rfl, rfl⟩
    refine g_aload_n d_Mo_differ_119 rfl ?_
    refine g_iconst (v := nI 1) d_Mo_differ_120 (by decide) ?_
    refine g_iload d_Mo_differ_121 rfl ?_
    refine g_callV s_Mo_153 sv_Mo_width (by assumption) rfl (g_of_val (k_Mo_width h1 hC1 1 b (by omega) hb r1)) (by omega) rfl (by omega) (by omega) rfl (Nat.le_of_ble_eq_true rfl) d_Mo_differ_123 ?_
    rintro _ _ _ ⟨rfl, rfl, rfl⟩
    refine g_imul d_Mo_differ_126 ?_
    refine g_eqi (pk_mul _ _) ?_
    refine g_aload_n d_Mo_differ_127 rfl ?_
    refine g_iconst (v := nI 2) d_Mo_differ_128 (by decide) ?_
    refine g_iload d_Mo_differ_129 rfl ?_
    refine g_callV s_Mo_153 sv_Mo_width (by assumption) rfl (g_of_val (k_Mo_width h1 hC1 2 c (by omega) hc r2)) (by omega) rfl (by omega) (by omega) rfl (Nat.le_of_ble_eq_true rfl) d_Mo_differ_131 ?_
    rintro _ _ _ ⟨rfl, rfl, rfl⟩
    refine g_imul d_Mo_differ_134 ?_
    refine g_eqi (pk_mul _ _) ?_
    refine g_iadd d_Mo_differ_135 ?_
    refine g_eqi (nI_add _ _) ?_
    refine g_istore_n d_Mo_differ_136 (by decide) ?_
    refine g_iload_n d_Mo_differ_137 rfl ?_
    refine g_if_lt (tgt := 173) d_Mo_differ_138 (by decide) (fun _ => ?_) (fun hb => absurd (by decide) hb)
    refine g_iinc1 d_Mo_differ_173 rfl (by decide) ?_
    refine g_goto (tgt := 51) d_Mo_differ_176 (by decide) ?_
    exact ihd _ _ _ _ (hyes (by rw [hPd]; exact decide_eq_true hb_109))
theorem k_Mo_differF (h : M W = some (.inr (10, mo W th sz lk rc pl fa))) (hL : o_ml E M W mm rr) (hC : o_cu E M W cn cs) (f : Nat) (hf : f < 4) (o : Option Nat) (ho : lea (unl (rr 0) (mm 0) (rr 1) (mm 1)) o) : Ctr l E y_Mo_differ 4 [.ref W, .int (nI f)] N M 0 0 (g_ret (fun z N' M' => z = some (.int (witV o f)) ∧ N' = N ∧ (∃ cn' cs', o_cu E M' W cn' cs') ∧ ∀ x, x ≠ W + 7 → x ≠ W + 8 → M' x = M x)) := by
  obtain ⟨P, hP⟩ : ∃ P : Nat → Bool, P = unl (rr 0) (mm 0) (rr 1) (mm 1) := ⟨_, rfl⟩
  have hby : byr mm rr 0 1 P := by rw [hP]; exact byr_unl mm rr
  rw [← hP] at ho
  refine ctr_of [some (.ref W), some (.int (nI f)), none, none, none, none, none, none, none, none] (by decide) w_1120 rfl rfl (Nat.le_of_ble_eq_true rfl) (fun Γ => ?_)
  refine g_aload_n d_Mo_differ_0 rfl ?_
  refine g_iconst (v := nI 0) d_Mo_differ_1 (by decide) ?_
  refine g_iconst (v := nI 1) d_Mo_differ_2 (by decide) ?_
  refine g_callV s_Mo_150 sv_Mo_cutBy (by assumption) rfl (k_Mo_cutBy h hL hC 0 1 (by omega) (by omega)) (by omega) rfl (by omega) (by omega) rfl (Nat.le_of_ble_eq_true rfl) d_Mo_differ_3 ?_
  rintro v' N' M1 ⟨rfl, rfl, ⟨cn1, cs1, hC1, hg⟩, f1⟩
  have h1 := (f1 W (by omega) (by omega)).trans h
  have hL1 := hL.kept (M' := M1) (fun x _ _ => f1 x (by omega) (by omega))
  obtain ⟨q0, q1, q2⟩ := gdc3 hg
  obtain ⟨r0, -, -⟩ := (hg 0 (by omega)).1 (by omega)
  obtain ⟨r1, -, -⟩ := (hg 1 (by omega)).1 (by omega)
  obtain ⟨r2, -, -⟩ := (hg 2 (by omega)).1 (by omega)
  obtain ⟨⟨fm, m1, m2⟩, -⟩ := id hC1
  have n0 := m2 0 (by omega)
  have n1 := m2 1 (by omega)
  have n2 := m2 2 (by omega)
  obtain ⟨k0, k1, k2⟩ := box_c hg hby
  have ms0 : mst 0 = 255 := rfl
  have ms1 : mst 1 = 255 := rfl
  have ms2 : mst 2 = 1023 := rfl
  refine g_iconst (v := nI 0) d_Mo_differ_6 (by decide) ?_
  refine g_istore_n d_Mo_differ_7 (by decide) ?_
  refine g_iconst (v := nI 0) d_Mo_differ_8 (by decide) ?_
  refine g_istore_n d_Mo_differ_9 (by decide) ?_
  refine g_for (P := fun a => ∀ (y4 y5 y6 y7 y8 y9 : Option Value), (∀ x y z d, x < bdr cn1 cs1 0 a → y ≤ 255 → z ≤ 1023 → d ≤ 3 → P (pkt x y z d) = false) → G _ _ _ _ _ _ _ _ _ _ _ _ 10 [some (.ref W), some (.int (nI f)), some (.int (nI 0)), some (.int (nI a)), y4, y5, y6, y7, y8, y9] [] _ M1 0 0) (e := cn1 0) ?_ ?_ 0 (by omega) none none none none none none (fun x y z d hx => by rw [bdr_0 r0] at hx; omega)
  · intro y4 y5 y6 y7 y8 y9 hS
    refine g_iload_n d_Mo_differ_10 rfl ?_
    refine g_aload_n d_Mo_differ_11 rfl ?_
    refine g_get f_Mo_31 (by assumption) rfl d_Mo_differ_12 ?_
    refine g_iconst (v := nI 0) d_Mo_differ_15 (by decide) ?_
    refine g_iald _ (by assumption) rfl (by omega) (by decide) d_Mo_differ_16 ?_
    refine g_eqi n0.1 ?_
    have eo : o = none := lea_one ho (lea_none (fun a b c e ha hb hc he => hS a b c e (by rw [bdr_end]; omega) hb hc he))
    refine g_icmpN_ge (tgt := 197) d_Mo_differ_17 (by decide) (by omega) (by omega) (fun hb_17 => ?_) (fun hb_17 => ?_)
    · refine g_iload_n d_Mo_differ_197 rfl ?_
      refine g_ifN_ge (tgt := 205) d_Mo_differ_198 (by decide) (by omega) (fun _ => ?_) (fun hb => hb.elim)
      refine g_iconst (v := -1) d_Mo_differ_205 (by decide) ?_
      exact g_ireturn rfl rfl (by omega) (by omega) d_Mo_differ_206 ⟨_, rfl, by rw [eo]; rfl, rfl, ⟨cn1, cs1, hC1⟩, f1⟩
    · omega
  intro a ha iha y4 y5 y6 y7 y8 y9 hS
  have ta := q0 a ha
  refine g_iload_n d_Mo_differ_10 rfl ?_
  refine g_aload_n d_Mo_differ_11 rfl ?_
  refine g_get f_Mo_31 (by assumption) rfl d_Mo_differ_12 ?_
  refine g_iconst (v := nI 0) d_Mo_differ_15 (by decide) ?_
  refine g_iald _ (by assumption) rfl (by omega) (by decide) d_Mo_differ_16 ?_
  refine g_eqi n0.1 ?_
  refine g_icmpN_ge (tgt := 197) d_Mo_differ_17 (by decide) (by omega) (by omega) (fun hb_17 => ?_) (fun hb_17 => ?_)
  · omega
  refine g_iconst (v := nI 0) d_Mo_differ_20 (by decide) ?_
  refine g_istore d_Mo_differ_21 (by decide) ?_
  refine g_for (P := fun b => ∀ (y5 y6 y7 y8 y9 : Option Value), (∀ y z d, y < bdr cn1 cs1 1 b → z ≤ 1023 → d ≤ 3 → P (pkt (cs1 0 a) y z d) = false) → G _ _ _ _ _ _ _ _ _ _ _ _ 23 [some (.ref W), some (.int (nI f)), some (.int (nI 0)), some (.int (nI a)), some (.int (nI b)), y5, y6, y7, y8, y9] [] _ M1 0 0) (e := cn1 1) ?_ ?_ 0 (by omega) y5 y6 y7 y8 y9 (fun y z d hx => by rw [bdr_0 r1] at hx; omega)
  · intro y5 y6 y7 y8 y9 hT
    refine g_iload d_Mo_differ_23 rfl ?_
    refine g_aload_n d_Mo_differ_25 rfl ?_
    refine g_get f_Mo_31 (by assumption) rfl d_Mo_differ_26 ?_
    refine g_iconst (v := nI 1) d_Mo_differ_29 (by decide) ?_
    refine g_iald _ (by assumption) rfl (by omega) (by decide) d_Mo_differ_30 ?_
    refine g_eqi n1.1 ?_
    refine g_icmpN_ge (tgt := 191) d_Mo_differ_31 (by decide) (by omega) (by omega) (fun hb_31 => ?_) (fun hb_31 => ?_)
    · refine g_iinc1 d_Mo_differ_191 rfl (by decide) ?_
      refine g_goto (tgt := 10) d_Mo_differ_194 (by decide) ?_
      refine iha _ _ _ _ _ _ (fun x y z d hx hy hz hd => ?_)
      by_cases c : x < bdr cn1 cs1 0 a
      · exact hS x y z d c hy hz hd
      · rw [bdr_at ha] at c
        rw [k0 a ha x (by omega) hx y z d hy hz hd]
        exact hT y z d (by rw [bdr_end]; omega) hz hd
    · omega
  intro b hb ihb y5 y6 y7 y8 y9 hT
  have tb := q1 b hb
  refine g_iload d_Mo_differ_23 rfl ?_
  refine g_aload_n d_Mo_differ_25 rfl ?_
  refine g_get f_Mo_31 (by assumption) rfl d_Mo_differ_26 ?_
  refine g_iconst (v := nI 1) d_Mo_differ_29 (by decide) ?_
  refine g_iald _ (by assumption) rfl (by omega) (by decide) d_Mo_differ_30 ?_
  refine g_eqi n1.1 ?_
  refine g_icmpN_ge (tgt := 191) d_Mo_differ_31 (by decide) (by omega) (by omega) (fun hb_31 => ?_) (fun hb_31 => ?_)
  · omega
  refine g_iconst (v := nI 0) d_Mo_differ_34 (by decide) ?_
  refine g_istore d_Mo_differ_35 (by decide) ?_
  refine g_for (P := fun c => ∀ (y6 y7 y8 y9 : Option Value), (∀ z d, z < bdr cn1 cs1 2 c → d ≤ 3 → P (pkt (cs1 0 a) (cs1 1 b) z d) = false) → G _ _ _ _ _ _ _ _ _ _ _ _ 37 [some (.ref W), some (.int (nI f)), some (.int (nI 0)), some (.int (nI a)), some (.int (nI b)), some (.int (nI c)), y6, y7, y8, y9] [] _ M1 0 0) (e := cn1 2) ?_ ?_ 0 (by omega) y6 y7 y8 y9 (fun z d hx => by rw [bdr_0 r2] at hx; omega)
  · intro y6 y7 y8 y9 hV
    refine g_iload d_Mo_differ_37 rfl ?_
    refine g_aload_n d_Mo_differ_39 rfl ?_
    refine g_get f_Mo_31 (by assumption) rfl d_Mo_differ_40 ?_
    refine g_iconst (v := nI 2) d_Mo_differ_43 (by decide) ?_
    refine g_iald _ (by assumption) rfl (by omega) (by decide) d_Mo_differ_44 ?_
    refine g_eqi n2.1 ?_
    refine g_icmpN_ge (tgt := 185) d_Mo_differ_45 (by decide) (by omega) (by omega) (fun hb_45 => ?_) (fun hb_45 => ?_)
    · refine g_iinc1 d_Mo_differ_185 rfl (by decide) ?_
      refine g_goto (tgt := 23) d_Mo_differ_188 (by decide) ?_
      refine ihb _ _ _ _ _ (fun y z d hy hz hd => ?_)
      by_cases c : y < bdr cn1 cs1 1 b
      · exact hT y z d c hz hd
      · rw [bdr_at hb] at c
        rw [k1 b hb y (by omega) hy (cs1 0 a) z d ta hz hd]
        exact hV z d (by rw [bdr_end]; omega) hd
    · omega
  intro c hc ihc y6 y7 y8 y9 hV
  have tc := q2 c hc
  refine g_iload d_Mo_differ_37 rfl ?_
  refine g_aload_n d_Mo_differ_39 rfl ?_
  refine g_get f_Mo_31 (by assumption) rfl d_Mo_differ_40 ?_
  refine g_iconst (v := nI 2) d_Mo_differ_43 (by decide) ?_
  refine g_iald _ (by assumption) rfl (by omega) (by decide) d_Mo_differ_44 ?_
  refine g_eqi n2.1 ?_
  refine g_icmpN_ge (tgt := 185) d_Mo_differ_45 (by decide) (by omega) (by omega) (fun hb_45 => ?_) (fun hb_45 => ?_)
  · omega
  refine g_iconst (v := nI 0) d_Mo_differ_48 (by decide) ?_
  refine g_istore d_Mo_differ_49 (by decide) ?_
  refine g_for (P := fun d => ∀ (y7 y8 y9 : Option Value), (∀ e, e < d → P (pkt (cs1 0 a) (cs1 1 b) (cs1 2 c) e) = false) → G _ _ _ _ _ _ _ _ _ _ _ _ 51 [some (.ref W), some (.int (nI f)), some (.int (nI 0)), some (.int (nI a)), some (.int (nI b)), some (.int (nI c)), some (.int (nI d)), y7, y8, y9] [] _ M1 0 0) (e := 4) ?_ ?_ 0 (by omega) y7 y8 y9 (fun e he => by omega)
  · intro y7 y8 y9 hY
    refine g_iload d_Mo_differ_51 rfl ?_
    refine g_iconst (v := nI 4) d_Mo_differ_53 (by decide) ?_
    refine g_icmpN_ge (tgt := 179) d_Mo_differ_54 (by decide) (by omega) (by omega) (fun hb_54 => ?_) (fun hb_54 => ?_)
    · refine g_iinc1 d_Mo_differ_179 rfl (by decide) ?_
      refine g_goto (tgt := 37) d_Mo_differ_182 (by decide) ?_
      refine ihc _ _ _ _ (fun z d hz hd => ?_)
      by_cases e : z < bdr cn1 cs1 2 c
      · exact hV z d e hd
      · rw [bdr_at hc] at e
        rw [k2 c hc z (by omega) hz (cs1 0 a) (cs1 1 b) d ta tb hd]
        exact hY d (by omega)
    · omega
  intro d hd ihd y7 y8 y9 hY
  have hPd : P (pkt (cs1 0 a) (cs1 1 b) (cs1 2 c) d) = decide (jdg (rr 0) (mm 0) (pkt (cs1 0 a) (cs1 1 b) (cs1 2 c) d) ≠ jdg (rr 1) (mm 1) (pkt (cs1 0 a) (cs1 1 b) (cs1 2 c) d)) := by rw [hP]; rfl
  have lt0 := jdg_lt3 (hL.1 0 (by omega)).2 (pkt (cs1 0 a) (cs1 1 b) (cs1 2 c) d)
  have lt1 := jdg_lt3 (hL.1 1 (by omega)).2 (pkt (cs1 0 a) (cs1 1 b) (cs1 2 c) d)
  refine g_iload d_Mo_differ_51 rfl ?_
  refine g_iconst (v := nI 4) d_Mo_differ_53 (by decide) ?_
  refine g_icmpN_ge (tgt := 179) d_Mo_differ_54 (by decide) (by omega) (by omega) (fun hb_54 => ?_) (fun hb_54 => ?_)
  · omega
  refine g_aload_n d_Mo_differ_57 rfl ?_
  refine g_iconst (v := nI 0) d_Mo_differ_58 (by decide) ?_
  refine g_iload_n d_Mo_differ_59 rfl ?_
  refine g_callV s_Mo_144 sv_Mo_cut (by assumption) rfl (g_of_val (k_Mo_cut h1 hC1 0 a (by omega) ha)) (by omega) rfl (by omega) (by omega) rfl (Nat.le_of_ble_eq_true rfl) d_Mo_differ_60 ?_
  rintro _ _ _ ⟨rfl, rfl, rfl⟩
  refine g_istore d_Mo_differ_63 (by decide) ?_
  refine g_aload_n d_Mo_differ_65 rfl ?_
  refine g_iconst (v := nI 1) d_Mo_differ_66 (by decide) ?_
  refine g_iload d_Mo_differ_67 rfl ?_
  refine g_callV s_Mo_144 sv_Mo_cut (by assumption) rfl (g_of_val (k_Mo_cut h1 hC1 1 b (by omega) hb)) (by omega) rfl (by omega) (by omega) rfl (Nat.le_of_ble_eq_true rfl) d_Mo_differ_69 ?_
  rintro _ _ _ ⟨rfl, rfl, rfl⟩
  refine g_istore d_Mo_differ_72 (by decide) ?_
  refine g_aload_n d_Mo_differ_74 rfl ?_
  refine g_iconst (v := nI 2) d_Mo_differ_75 (by decide) ?_
  refine g_iload d_Mo_differ_76 rfl ?_
  refine g_callV s_Mo_144 sv_Mo_cut (by assumption) rfl (g_of_val (k_Mo_cut h1 hC1 2 c (by omega) hc)) (by omega) rfl (by omega) (by omega) rfl (Nat.le_of_ble_eq_true rfl) d_Mo_differ_78 ?_
  rintro _ _ _ ⟨rfl, rfl, rfl⟩
  refine g_istore d_Mo_differ_81 (by decide) ?_
  refine g_aload_n d_Mo_differ_83 rfl ?_
  refine g_iconst (v := nI 0) d_Mo_differ_84 (by decide) ?_
  refine g_iload d_Mo_differ_85 rfl ?_
  refine g_iload d_Mo_differ_87 rfl ?_
  refine g_iload d_Mo_differ_89 rfl ?_
  refine g_iload d_Mo_differ_91 rfl ?_
  refine g_callV s_Mo_141 sv_Mo_verdictBy (by assumption) rfl (g_of_val (k_Mo_verdictBy h1 hL1 0 (cs1 0 a) (cs1 1 b) (cs1 2 c) d (by omega) ta tb tc (by omega))) (by omega) rfl (by omega) (by omega) rfl (Nat.le_of_ble_eq_true rfl) d_Mo_differ_93 ?_
  rintro _ _ _ ⟨rfl, rfl, rfl⟩
  refine g_aload_n d_Mo_differ_96 rfl ?_
  refine g_iconst (v := nI 1) d_Mo_differ_97 (by decide) ?_
  refine g_iload d_Mo_differ_98 rfl ?_
  refine g_iload d_Mo_differ_100 rfl ?_
  refine g_iload d_Mo_differ_102 rfl ?_
  refine g_iload d_Mo_differ_104 rfl ?_
  refine g_callV s_Mo_141 sv_Mo_verdictBy (by assumption) rfl (g_of_val (k_Mo_verdictBy h1 hL1 1 (cs1 0 a) (cs1 1 b) (cs1 2 c) d (by omega) ta tb tc (by omega))) (by omega) rfl (by omega) (by omega) rfl (Nat.le_of_ble_eq_true rfl) d_Mo_differ_106 ?_
  rintro _ _ _ ⟨rfl, rfl, rfl⟩
  refine g_icmpN_eq (tgt := 173) d_Mo_differ_109 (by decide) (by omega) (by omega) (fun hb_109 => ?_) (fun hb_109 => ?_)
  · refine g_iinc1 d_Mo_differ_173 rfl (by decide) ?_
    refine g_goto (tgt := 51) d_Mo_differ_176 (by decide) ?_
    refine ihd _ _ _ (fun e he => ?_)
    by_cases q : e = d
    · subst q
      rw [hPd]
      exact decide_eq_false (fun z => z hb_109)
    · exact hY e (by omega)
  · have hle := lea_one ho (lea_at ta tb tc (by omega) (by rw [hPd]; exact decide_eq_true hb_109) (fun x y z e hx => hS x y z e (by rw [bdr_at ha]; exact hx)) (fun y z e hy => hT y z e (by rw [bdr_at hb]; exact hy)) (fun z e hz => hV z e (by rw [bdr_at hc]; exact hz)) hY)
    have w0 : witV o 0 = nI (cs1 0 a) := by rw [hle]; exact congrArg nI (pv_0 ta tb tc (by omega))
    have w1 : witV o 1 = nI (cs1 1 b) := by rw [hle]; exact congrArg nI (pv_1 ta tb tc (by omega))
    have w2 : witV o 2 = nI (cs1 2 c) := by rw [hle]; exact congrArg nI (pv_2 ta tb tc (by omega))
    have w3 : witV o 3 = nI d := by rw [hle]; exact congrArg nI (pv_3 ta tb tc (by omega))
    refine g_iload_n d_Mo_differ_112 rfl ?_
    refine g_aload_n d_Mo_differ_113 rfl ?_
    refine g_iconst (v := nI 0) d_Mo_differ_114 (by decide) ?_
    refine g_iload_n d_Mo_differ_115 rfl ?_
    refine g_callV s_Mo_153 sv_Mo_width (by assumption) rfl (g_of_val (k_Mo_width h1 hC1 0 a (by omega) ha r0)) (by omega) rfl (by omega) (by omega) rfl (Nat.le_of_ble_eq_true rfl) d_Mo_differ_116 ?_
    rintro _ _ _ ⟨rfl, rfl, rfl⟩
    refine g_aload_n d_Mo_differ_119 rfl ?_
    refine g_iconst (v := nI 1) d_Mo_differ_120 (by decide) ?_
    refine g_iload d_Mo_differ_121 rfl ?_
    refine g_callV s_Mo_153 sv_Mo_width (by assumption) rfl (g_of_val (k_Mo_width h1 hC1 1 b (by omega) hb r1)) (by omega) rfl (by omega) (by omega) rfl (Nat.le_of_ble_eq_true rfl) d_Mo_differ_123 ?_
    rintro _ _ _ ⟨rfl, rfl, rfl⟩
    refine g_imul d_Mo_differ_126 ?_
    refine g_eqi (pk_mul _ _) ?_
    refine g_aload_n d_Mo_differ_127 rfl ?_
    refine g_iconst (v := nI 2) d_Mo_differ_128 (by decide) ?_
    refine g_iload d_Mo_differ_129 rfl ?_
    refine g_callV s_Mo_153 sv_Mo_width (by assumption) rfl (g_of_val (k_Mo_width h1 hC1 2 c (by omega) hc r2)) (by omega) rfl (by omega) (by omega) rfl (Nat.le_of_ble_eq_true rfl) d_Mo_differ_131 ?_
    rintro _ _ _ ⟨rfl, rfl, rfl⟩
    refine g_imul d_Mo_differ_134 ?_
    refine g_eqi (pk_mul _ _) ?_
    refine g_iadd d_Mo_differ_135 ?_
    refine g_eqi (nI_add _ _) ?_
    refine g_istore_n d_Mo_differ_136 (by decide) ?_
    refine g_iload_n d_Mo_differ_137 rfl ?_
    refine g_ifN_lt (tgt := 173) d_Mo_differ_138 (by decide) (by omega) (fun hb => hb.elim) (fun _ => ?_)
    refine g_iload_n d_Mo_differ_141 rfl ?_
    refine g_ifN_ne (tgt := 150) d_Mo_differ_142 (by decide) (by omega) (fun hb_142 => ?_) (fun hb_142 => ?_)
    · refine g_iload_n d_Mo_differ_150 rfl ?_
      refine g_iconst (v := nI 1) d_Mo_differ_151 (by decide) ?_
      refine g_icmpN_ne (tgt := 160) d_Mo_differ_152 (by decide) (by omega) (by omega) (fun hb_152 => ?_) (fun hb_152 => ?_)
      · refine g_iload_n d_Mo_differ_160 rfl ?_
        refine g_iconst (v := nI 2) d_Mo_differ_161 (by decide) ?_
        refine g_icmpN_ne (tgt := 170) d_Mo_differ_162 (by decide) (by omega) (by omega) (fun hb_162 => ?_) (fun hb_162 => ?_)
        · have : f = 3 := by omega
          subst this
          refine g_iload d_Mo_differ_170 rfl ?_
          exact g_ireturn rfl rfl (by omega) (by omega) d_Mo_differ_172 ⟨_, rfl, by rw [w3], rfl, ⟨cn1, cs1, hC1⟩, f1⟩
        · subst hb_162
          refine g_iload d_Mo_differ_165 rfl ?_
          refine g_goto (tgt := 172) d_Mo_differ_167 (by decide) ?_
          exact g_ireturn rfl rfl (by omega) (by omega) d_Mo_differ_172 ⟨_, rfl, by rw [w2], rfl, ⟨cn1, cs1, hC1⟩, f1⟩
      · subst hb_152
        refine g_iload d_Mo_differ_155 rfl ?_
        refine g_goto (tgt := 172) d_Mo_differ_157 (by decide) ?_
        exact g_ireturn rfl rfl (by omega) (by omega) d_Mo_differ_172 ⟨_, rfl, by rw [w1], rfl, ⟨cn1, cs1, hC1⟩, f1⟩
    · subst hb_142
      refine g_iload d_Mo_differ_145 rfl ?_
      refine g_goto (tgt := 172) d_Mo_differ_147 (by decide) ?_
      exact g_ireturn rfl rfl (by omega) (by omega) d_Mo_differ_172 ⟨_, rfl, by rw [w0], rfl, ⟨cn1, cs1, hC1⟩, f1⟩
theorem k_Mo_differing (h : OM E M W th tn ts mm rr gn gs) : Ctr l E y_Mo_differing 5 [.ref W] N M 0 0 (g_ret (fun z N' M' => z = some (.int (nI (apk (unl (rr 0) (mm 0) (rr 1) (mm 1))))) ∧ N' = N ∧ OM E M' W (nI 0) tn ts mm rr gn gs ∧ ∀ x, (x < W ∨ W + 12 < x) → M' x = M x)) := by
  obtain ⟨⟨rc, pl, fa, hO⟩, hT, hL, hK, hS⟩ := h
  have h : OM E M W th tn ts mm rr gn gs := ⟨⟨rc, pl, fa, hO⟩, hT, hL, hK, hS⟩
  refine ctr_of [some (.ref W)] (by decide) w_1116 rfl rfl (Nat.le_of_ble_eq_true rfl) (fun Γ => ?_)
  refine g_aload_n d_Mo_differing_0 rfl ?_
  refine g_iconst (v := nI 0) d_Mo_differing_1 (by decide) ?_
  refine g_put p_Mo_46 (by assumption) (Nat.le_of_ble_eq_true rfl) rfl rfl d_Mo_differing_2 ?_
  refine g_nm (fun M1 e1 f1 => ?_)
  have hL1 := hL.kept (M' := M1) (fun x _ _ => f1 x (by omega))
  obtain ⟨⟨cn, cs, hC⟩, -⟩ := id hS
  have hC1 := hC.kept (M' := M1) (fun x _ => f1 x (by omega))
  refine g_aload_n d_Mo_differing_5 rfl ?_
  refine g_iconst (v := -1) d_Mo_differing_6 (by decide) ?_
  refine g_callV s_Mo_160 sv_Mo_differ (by assumption) rfl (k_Mo_differS e1 hL1 hC1) (by omega) rfl (by omega) (by omega) rfl (Nat.le_of_ble_eq_true rfl) d_Mo_differing_7 ?_
  rintro v' N' M2 ⟨rfl, rfl, hC2, f2⟩
  exact g_ireturn rfl rfl (by omega) (by omega) d_Mo_differing_10 ⟨_, rfl, rfl, rfl, (h.own e1 f1).cuts hC2 f2, fun x hx => (f2 x (by omega) (by omega)).trans (f1 x (by omega))⟩
theorem k_Mo_witness (h : OM E M W th tn ts mm rr gn gs) (f : Nat) (hf : f < 4) (o : Option Nat) (ho : lea (unl (rr 0) (mm 0) (rr 1) (mm 1)) o) : Ctr l E y_Mo_witness 5 [.ref W, .int (nI f)] N M 0 0 (g_ret (fun z N' M' => z = some (.int (witV o f)) ∧ N' = N ∧ OM E M' W (nI 0) tn ts mm rr gn gs ∧ ∀ x, (x < W ∨ W + 12 < x) → M' x = M x)) := by
  obtain ⟨⟨rc, pl, fa, hO⟩, hT, hL, hK, hS⟩ := h
  have h : OM E M W th tn ts mm rr gn gs := ⟨⟨rc, pl, fa, hO⟩, hT, hL, hK, hS⟩
  have hin := inI_yes (j := f) (k := 3) (by omega) (by omega)
  refine ctr_of [some (.ref W), some (.int (nI f))] (by decide) w_1124 rfl rfl (Nat.le_of_ble_eq_true rfl) (fun Γ => ?_)
  refine g_aload_n d_Mo_witness_0 rfl ?_
  refine g_iload_n d_Mo_witness_1 rfl ?_
  refine g_iconst (v := nI 0) d_Mo_witness_2 (by decide) ?_
  refine g_iconst (v := nI 3) d_Mo_witness_3 (by decide) ?_
  refine g_callS s_Mo_112 sv_Mo_in (g_of_val (k_Mo_in _ _ _)) (by omega) rfl (by omega) (by omega) rfl (Nat.le_of_ble_eq_true rfl) d_Mo_witness_4 ?_
  rintro _ _ _ ⟨rfl, rfl, rfl⟩
  first | refine g_ifB_ne (tgt := 14) d_Mo_witness_7 (by decide) (fun hb_7 => ?_) (fun hb_7 => ?_) | refine g_ifN_ne (tgt := 14) d_Mo_witness_7 (by decide) (by omega) (fun hb_7 => ?_) (fun hb_7 => ?_)
  rotate_left
  · rw [hin] at hb_7; cases hb_7
  refine g_iconst (v := nI 0) d_Mo_witness_14 (by decide) ?_
  refine g_iconst (v := nI 0) d_Mo_witness_15 (by decide) ?_
  refine g_callV s_Mo_57 sv_Mo_refuse (by assumption) rfl (k_Mo_refuse hO false false) (by omega) rfl (by omega) (by omega) rfl (Nat.le_of_ble_eq_true rfl) d_Mo_witness_16 ?_
  rintro v' N' M1 ⟨rfl, rfl, e1, f1⟩
  have hL1 := hL.kept (M' := M1) (fun x _ _ => f1 x (by omega))
  obtain ⟨⟨cn, cs, hC⟩, -⟩ := id hS
  have hC1 := hC.kept (M' := M1) (fun x _ => f1 x (by omega))
  first | refine g_ifB_eq (tgt := 24) d_Mo_witness_19 (by decide) (fun hb_19 => ?_) (fun hb_19 => ?_) | refine g_ifN_eq (tgt := 24) d_Mo_witness_19 (by decide) (by omega) (fun hb_19 => ?_) (fun hb_19 => ?_)
  rotate_left
  · cases hb_19
  refine g_aload_n d_Mo_witness_24 rfl ?_
  refine g_iload_n d_Mo_witness_25 rfl ?_
  refine g_callV s_Mo_160 sv_Mo_differ (by assumption) rfl (k_Mo_differF e1 hL1 hC1 f hf o ho) (by omega) rfl (by omega) (by omega) rfl (Nat.le_of_ble_eq_true rfl) d_Mo_witness_26 ?_
  rintro v' N' M2 ⟨rfl, rfl, hC2, f2⟩
  exact g_ireturn rfl rfl (by omega) (by omega) d_Mo_witness_29 ⟨_, rfl, rfl, rfl, (h.own e1 f1).cuts hC2 f2, fun x hx => (f2 x (by omega) (by omega)).trans (f1 x (by omega))⟩
theorem x_Mo_witness (h : OM E M W th tn ts mm rr gn gs) (x : Int32) (hx : noN x 4) : Ctr l E y_Mo_witness 5 [.ref W, .int x] N M 0 0 (g_ret (fun v N' M' => v = some (.int (nI 0)) ∧ N' = N ∧ OM E M' W (nI 1) tn ts mm rr gn gs ∧ ∀ x, x ≠ W → M' x = M x)) := by
  obtain ⟨⟨rc, pl, fa, hO⟩, hT, hL, hK, hS⟩ := h
  have h : OM E M W th tn ts mm rr gn gs := ⟨⟨rc, pl, fa, hO⟩, hT, hL, hK, hS⟩
  have hin := inI_no (k := 3) hx (by omega)
  refine ctr_of [some (.ref W), some (.int x)] (by decide) w_1124 rfl rfl (Nat.le_of_ble_eq_true rfl) (fun Γ => ?_)
  refine g_aload_n d_Mo_witness_0 rfl ?_
  refine g_iload_n d_Mo_witness_1 rfl ?_
  refine g_iconst (v := nI 0) d_Mo_witness_2 (by decide) ?_
  refine g_iconst (v := nI 3) d_Mo_witness_3 (by decide) ?_
  refine g_callS s_Mo_112 sv_Mo_in (g_of_val (k_Mo_in _ _ _)) (by omega) rfl (by omega) (by omega) rfl (Nat.le_of_ble_eq_true rfl) d_Mo_witness_4 ?_
  rintro _ _ _ ⟨rfl, rfl, rfl⟩
  first | refine g_ifB_ne (tgt := 14) d_Mo_witness_7 (by decide) (fun hb_7 => ?_) (fun hb_7 => ?_) | refine g_ifN_ne (tgt := 14) d_Mo_witness_7 (by decide) (by omega) (fun hb_7 => ?_) (fun hb_7 => ?_)
  · rw [hin] at hb_7; cases hb_7
  · refine g_iconst (v := nI 1) d_Mo_witness_10 (by decide) ?_
    refine g_goto (tgt := 15) d_Mo_witness_11 (by decide) ?_
    refine g_iconst (v := nI 0) d_Mo_witness_15 (by decide) ?_
    refine g_callV s_Mo_57 sv_Mo_refuse (by assumption) rfl (k_Mo_refuse hO true false) (by omega) rfl (by omega) (by omega) rfl (Nat.le_of_ble_eq_true rfl) d_Mo_witness_16 ?_
    rintro v' N' M1 ⟨rfl, rfl, e1, f1⟩
    first | refine g_ifB_eq (tgt := 24) d_Mo_witness_19 (by decide) (fun hb_19 => ?_) (fun hb_19 => ?_) | refine g_ifN_eq (tgt := 24) d_Mo_witness_19 (by decide) (by omega) (fun hb_19 => ?_) (fun hb_19 => ?_)
    · cases hb_19
    · refine g_iconst (v := nI 0) d_Mo_witness_22 (by decide) ?_
      exact g_ireturn rfl rfl (by omega) (by omega) d_Mo_witness_23 ⟨_, rfl, rfl, rfl, h.own e1 f1, f1⟩
end MDIFF

