/-! the model's table -/
theorem gdc_bxr {mm : Nat → Nat} {rr : Nat → Nat → Rl} {j : Nat} {cn : Nat → Nat} {cs : Nat → Nat → Nat} (hj : j < 2) (hm : mm j ≤ 8) (hg : ∀ g, g < 4 → gdc mm rr j j cn cs g) : bxr (rr j) (mm j) cn cs := by
  have hs : sml mm j (j + 1) = mm j := by
    rcases (show j = 0 ∨ j = 1 by omega) with rfl | rfl
    · show 0 + (if 0 ≤ 0 then mm 0 else 0) = mm 0
      rw [if_pos (Nat.le_refl _), Nat.zero_add]
    · show 0 + (if 1 ≤ 0 then mm 0 else 0) + (if 1 ≤ 1 then mm 1 else 0) = mm 1
      rw [if_neg (by omega), if_pos (Nat.le_refl _), Nat.add_zero, Nat.zero_add]
  intro g hg4
  by_cases c : g < 3
  · obtain ⟨a, b, d⟩ := (hg g hg4).1 c
    refine ⟨a, b j (Nat.le_refl _) (Nat.le_refl _), ?_⟩
    rw [hs] at d
    have : wid g = 17 := if_pos c
    omega
  · have : g = 3 := by omega
    subst this
    obtain ⟨a, b⟩ := (hg 3 hg4).2 rfl
    have e : mst 3 = 3 := rfl
    rw [a]
    refine ⟨⟨b 0 (by omega), by omega, fun k hk => by rw [b k (by omega), b (k + 1) (by omega)]; omega, by rw [b 3 (by omega)]; omega⟩, fun i _ => ⟨fun hv => ⟨_, hv, b _ hv⟩, fun hv => ⟨_, hv, b _ hv⟩⟩, by show 4 ≤ 4; omega⟩
theorem jv_uo {rs : Nat → Rl} {m : Nat} {cn : Nat → Nat} {cs : Nat → Nat → Nat} (h : cn 3 = 4) (h3 : ∀ k, k < 4 → cs 3 k = k) (p : Nat) : jdg rs m (pkt (cs 0 (clp (cn 0) (p / 1156))) (cs 1 (clp (cn 1) (p / 68 % 17))) (cs 2 (clp (cn 2) (p / 4 % 17))) (p % 4)) = jv rs m (uo cn cs p) := by
  have e : uo cn cs p 3 = p % 4 := by
    show cs 3 (clp (cn 3) (p % 4)) = p % 4
    unfold clp
    rw [h, if_pos (by omega), h3 _ (by omega)]
  unfold jv
  rw [e]
  rfl
theorem nb_ln : ∀ f, f < 4 → nbf f * lnf f = 19652 ∧ 0 < lnf f := by decide
theorem nb_lt {f k : Nat} (hf : f < 4) (hk : k < nbf f) : k * lnf f + lnf f ≤ 19652 := by
  have h := nb_ln f hf
  have : (k + 1) * lnf f ≤ nbf f * lnf f := Nat.mul_le_mul_right _ (by omega)
  rw [Nat.succ_mul] at this
  omega
def cdk (tb cn : Nat → Nat) (f k k' : Nat) : Bool := decide (1 < rwm tb f (k * lnf f) (wid f - 1)) && (rea cn (k * lnf f) && decide (∀ t, t < k' → (rea cn (t * lnf f) && smB tb (t * lnf f) (k * lnf f) (lnf f)) = false))
theorem cdk_0 (tb cn : Nat → Nat) (f k : Nat) : cdk tb cn f k 0 = (decide (1 < rwm tb f (k * lnf f) (wid f - 1)) && rea cn (k * lnf f)) := by
  unfold cdk
  simp
theorem cdk_s (tb cn : Nat → Nat) (f k k' : Nat) : cdk tb cn f k (k' + 1) = (cdk tb cn f k k' && !(rea cn (k' * lnf f) && smB tb (k' * lnf f) (k * lnf f) (lnf f))) := by
  unfold cdk
  rw [Bool.and_assoc, Bool.and_assoc]
  have e : decide (∀ t, t < k' + 1 → (rea cn (t * lnf f) && smB tb (t * lnf f) (k * lnf f) (lnf f)) = false) = (decide (∀ t, t < k' → (rea cn (t * lnf f) && smB tb (t * lnf f) (k * lnf f) (lnf f)) = false) && !(rea cn (k' * lnf f) && smB tb (k' * lnf f) (k * lnf f) (lnf f))) := by
    rw [Bool.eq_iff_iff, Bool.and_eq_true, decide_eq_true_iff, decide_eq_true_iff, Bool.not_eq_true']
    constructor
    · intro h
      exact ⟨fun t ht => h t (by omega), h k' (by omega)⟩
    · rintro ⟨h1, h2⟩ t ht
      by_cases e : t = k'
      · rw [e]; exact h2
      · exact h1 t (by omega)
  rw [e]
theorem cdk_end (tb cn : Nat → Nat) (f k : Nat) : cdk tb cn f k k = cdd tb cn f k := rfl
theorem cdk_no {tb cn : Nat → Nat} {f k k' : Nat} (hk : k' ≤ k) (h : cdk tb cn f k k' = false) : cdd tb cn f k = false := by
  rw [← cdk_end]
  have key : ∀ d, cdk tb cn f k (k' + d) = false := by
    intro d
    induction d with
    | zero => exact h
    | succ d ih =>
      show cdk tb cn f k (k' + d + 1) = false
      rw [cdk_s, ih, Bool.false_and]
  have := key (k - k')
  rw [show k' + (k - k') = k by omega] at this
  exact this
theorem ctd_s (tb cn : Nat → Nat) (f : Nat) (e : Bool) (k : Nat) : ctd tb cn f e (k + 1) = ctd tb cn f e k + (if cdd tb cn f k = true then (if e = true then rwm tb f (k * lnf f) (wid f - 1) else 1) else 0) := rfl
section MFILL
variable {l : Launch} {E : gE} {N : Nat} {M : gM} {W tn : Nat} {th sz lk rc pl fa : Int32} {ts cn mm : Nat → Nat} {cs : Nat → Nat → Nat} {rr : Nat → Nat → Rl} {gn : Nat} {gs : Nat → Nat}
theorem g_cut {y : MethodName} {cc : ByteArray} {nL : Nat} {ret : Option FieldType} {tb : List ExceptionTableEntry} {d : Nat} {Q : Outcome → Nat → gM → Prop} {mc ms : Nat} {Γ : gT} {pc : Nat} {L : List (Option Value)} {st : List Value} {k n : Nat} (pc2 : Nat) (L2 : Option Value → List (Option Value)) (st2 : List Value) (kk : ∀ z, G l E y cc nL ret tb d Q mc ms Γ pc2 (L2 z) st2 N M k n) (w : (∀ z, G l E y cc nL ret tb d Q mc ms Γ pc2 (L2 z) st2 N M k n) → G l E y cc nL ret tb d Q mc ms Γ pc L st N M k n) : G l E y cc nL ret tb d Q mc ms Γ pc L st N M k n := w kk
theorem k_Mo_fill {ft0 : Nat → Int32} (h : M W = some (.inr (10, mo W th sz lk rc pl fa))) (hL : o_ml E M W mm rr) (hC : o_cu E M W cn cs) (h9 : M (W + 9) = some (g_ia E 19652 ft0)) (j : Nat) (hj : j < 2) : Ctr l E y_Mo_fill 4 [.ref W, .int (nI j)] N M 0 0 (g_ret (fun z N' M' => z = none ∧ N' = N ∧ (∃ cn' cs' ft, o_cu E M' W cn' cs' ∧ (∀ g, g < 4 → gdc mm rr j j cn' cs' g) ∧ M' (W + 9) = some (g_ia E 19652 ft) ∧ ∀ p, p < 19652 → ft p = nI (jv (rr j) (mm j) (uo cn' cs' p))) ∧ ∀ x, x ≠ W + 7 → x ≠ W + 8 → x ≠ W + 9 → M' x = M x)) := by
  refine ctr_of [some (.ref W), some (.int (nI j)), none, none, none, none] (by decide) w_1132 rfl rfl (Nat.le_of_ble_eq_true rfl) (fun Γ => ?_)
  refine g_aload_n d_Mo_fill_0 rfl ?_
  refine g_iload_n d_Mo_fill_1 rfl ?_
  refine g_iload_n d_Mo_fill_2 rfl ?_
  refine g_callV s_Mo_150 sv_Mo_cutBy (by assumption) rfl (k_Mo_cutBy h hL hC j j (Nat.le_refl _) hj) (by omega) rfl (by omega) (by omega) rfl (Nat.le_of_ble_eq_true rfl) d_Mo_fill_3 ?_
  rintro v' N' M1 ⟨rfl, rfl, ⟨cn1, cs1, hC1, hg⟩, f1⟩
  have h1 := (f1 W (by omega) (by omega)).trans h
  have h91 := (f1 (W + 9) (by omega) (by omega)).trans h9
  obtain ⟨q0, q1, q2⟩ := gdc3 hg
  obtain ⟨r0, -, -⟩ := (hg 0 (by omega)).1 (by omega)
  obtain ⟨r1, -, -⟩ := (hg 1 (by omega)).1 (by omega)
  obtain ⟨r2, -, -⟩ := (hg 2 (by omega)).1 (by omega)
  have p0 := r0.2.1
  have p1 := r1.2.1
  have p2 := r2.2.1
  obtain ⟨c3a, c3b⟩ := (hg 3 (by omega)).2 rfl
  have hjv := jv_uo (rs := rr j) (m := mm j) c3a c3b
  refine g_iconst (v := nI 0) d_Mo_fill_6 (by decide) ?_
  refine g_istore_n d_Mo_fill_7 (by decide) ?_
  refine g_for (P := fun k => ∀ (M2 : gM) (ft : Nat → Int32) (y3 y4 y5 : Option Value), M2 (W + 9) = some (g_ia E 19652 ft) → (∀ p, p < k → ft p = nI (jv (rr j) (mm j) (uo cn1 cs1 p))) → (∀ x, x ≠ W + 9 → M2 x = M1 x) → G _ _ _ _ _ _ _ _ _ _ _ _ 8 [some (.ref W), some (.int (nI j)), some (.int (nI k)), y3, y4, y5] [] _ M2 0 0) (e := 19652) ?_ ?_ 0 (by omega) M1 ft0 none none none h91 (fun p hp => by omega) (fun _ _ => rfl)
  · intro M2 ft y3 y4 y5 t1 t2 f2
    refine g_iload_n d_Mo_fill_8 rfl ?_
    refine g_sipush (v := nI 19652) d_Mo_fill_9 (by decide) ?_
    refine g_icmpN_ge (tgt := 159) d_Mo_fill_12 (by decide) (by omega) (by omega) (fun hb_12 => ?_) (fun hb_12 => ?_)
    · exact g_return rfl (by omega) (by omega) d_Mo_fill_159 ⟨_, rfl, rfl, rfl, ⟨cn1, cs1, ft, hC1.kept (fun x _ => f2 x (by omega)), hg, t1, t2⟩, fun x x1 x2 x3 => (f2 x x3).trans (f1 x x1 x2)⟩
    · omega
  · intro k hk ih M2 ft y3 y4 y5 t1 t2 f2
    have h2 := (f2 W (by omega)).trans h1
    have hC2 := hC1.kept (M' := M2) (fun x _ => f2 x (by omega))
    have hL2 := hL.kept (M' := M2) (fun x _ _ => (f2 x (by omega)).trans (f1 x (by omega) (by omega)))
    obtain ⟨⟨fm, m1, m2⟩, -⟩ := id hC2
    have n0 := m2 0 (by omega)
    have n1 := m2 1 (by omega)
    have n2 := m2 2 (by omega)
    refine g_iload_n d_Mo_fill_8 rfl ?_
    refine g_sipush (v := nI 19652) d_Mo_fill_9 (by decide) ?_
    refine g_icmpN_ge (tgt := 159) d_Mo_fill_12 (by decide) (by omega) (by omega) (fun hb_12 => ?_) (fun hb_12 => ?_)
    · omega
    refine g_iload_n d_Mo_fill_15 rfl ?_
    refine g_iconst (v := nI 0) d_Mo_fill_16 (by decide) ?_
    refine g_callS s_Mo_163 sv_Mo_room (g_of_val (k_Mo_room 0 (by omega))) (by omega) rfl (by omega) (by omega) rfl (Nat.le_of_ble_eq_true rfl) d_Mo_fill_17 ?_
    rintro _ _ _ ⟨rfl, rfl, rfl⟩
    refine g_idiv d_Mo_fill_20 (by decide) ?_
    refine g_eqi (pk_div (d := 1156) (by omega) (by omega) (by omega)) ?_
    refine g_istore_n d_Mo_fill_21 (by decide) ?_
    refine g_iload_n d_Mo_fill_22 rfl ?_
    refine g_iconst (v := nI 1) d_Mo_fill_23 (by decide) ?_
    refine g_callS s_Mo_163 sv_Mo_room (g_of_val (k_Mo_room 1 (by omega))) (by omega) rfl (by omega) (by omega) rfl (Nat.le_of_ble_eq_true rfl) d_Mo_fill_24 ?_
    rintro _ _ _ ⟨rfl, rfl, rfl⟩
    refine g_idiv d_Mo_fill_27 (by decide) ?_
    refine g_eqi (pk_div (d := 68) (by omega) (by omega) (by omega)) ?_
    refine g_bipush (v := nI 17) d_Mo_fill_28 (by decide) ?_
    refine g_irem d_Mo_fill_30 (by decide) ?_
    refine g_eqi (pk_rem (d := 17) (by omega) (by omega) (by omega)) ?_
    refine g_istore d_Mo_fill_31 (by decide) ?_
    refine g_iload_n d_Mo_fill_33 rfl ?_
    refine g_iconst (v := nI 2) d_Mo_fill_34 (by decide) ?_
    refine g_callS s_Mo_163 sv_Mo_room (g_of_val (k_Mo_room 2 (by omega))) (by omega) rfl (by omega) (by omega) rfl (Nat.le_of_ble_eq_true rfl) d_Mo_fill_35 ?_
    rintro _ _ _ ⟨rfl, rfl, rfl⟩
    refine g_idiv d_Mo_fill_38 (by decide) ?_
    refine g_eqi (pk_div (d := 4) (by omega) (by omega) (by omega)) ?_
    refine g_bipush (v := nI 17) d_Mo_fill_39 (by decide) ?_
    refine g_irem d_Mo_fill_41 (by decide) ?_
    refine g_eqi (pk_rem (d := 17) (by omega) (by omega) (by omega)) ?_
    refine g_istore d_Mo_fill_42 (by decide) ?_
    refine g_cut 66 (fun _ => [some (.ref W), some (.int (nI j)), some (.int (nI k)), some (.int (nI (k / 1156))), some (.int (nI (k / 68 % 17))), some (.int (nI (k / 4 % 17)))]) [.int (nI (clp (cn1 0) (k / 1156)))] (fun _ => ?_) (fun kk => ?_)
    rotate_left
    · refine g_iload_n d_Mo_fill_44 rfl ?_
      refine g_aload_n d_Mo_fill_45 rfl ?_
      refine g_get f_Mo_31 (by assumption) rfl d_Mo_fill_46 ?_
      refine g_iconst (v := nI 0) d_Mo_fill_49 (by decide) ?_
      refine g_iald _ (by assumption) rfl (by omega) (by decide) d_Mo_fill_50 ?_
      refine g_eqi n0.1 ?_
      refine g_icmpN_ge (tgt := 58) d_Mo_fill_51 (by decide) (by omega) (by omega) (fun hb_51 => ?_) (fun hb_51 => ?_)
      · refine g_aload_n d_Mo_fill_58 rfl ?_
        refine g_get f_Mo_31 (by assumption) rfl d_Mo_fill_59 ?_
        refine g_iconst (v := nI 0) d_Mo_fill_62 (by decide) ?_
        refine g_iald _ (by assumption) rfl (by omega) (by decide) d_Mo_fill_63 ?_
        refine g_eqi n0.1 ?_
        refine g_iconst (v := nI 1) d_Mo_fill_64 (by decide) ?_
        refine g_isub d_Mo_fill_65 ?_
        refine g_eqi (z := nI (clp (cn1 0) (k / 1156))) (by rw [pk_sub (by omega)]; unfold clp; rw [if_neg (by omega)]) ?_
        exact kk none
      · refine g_iload_n d_Mo_fill_54 rfl ?_
        refine g_goto (tgt := 66) d_Mo_fill_55 (by decide) ?_
        refine g_eqi (z := nI (clp (cn1 0) (k / 1156))) (by unfold clp; rw [if_pos (by omega)]) ?_
        exact kk none
    have ca := clp_lt (k := k / 1156) p0
    generalize hca : clp (cn1 0) (k / 1156) = A at ca ⊢
    refine g_istore_n d_Mo_fill_66 (by decide) ?_
    refine g_cut 91 (fun _ => [some (.ref W), some (.int (nI j)), some (.int (nI k)), some (.int (nI A)), some (.int (nI (k / 68 % 17))), some (.int (nI (k / 4 % 17)))]) [.int (nI (clp (cn1 1) (k / 68 % 17)))] (fun _ => ?_) (fun kk => ?_)
    rotate_left
    · refine g_iload d_Mo_fill_67 rfl ?_
      refine g_aload_n d_Mo_fill_69 rfl ?_
      refine g_get f_Mo_31 (by assumption) rfl d_Mo_fill_70 ?_
      refine g_iconst (v := nI 1) d_Mo_fill_73 (by decide) ?_
      refine g_iald _ (by assumption) rfl (by omega) (by decide) d_Mo_fill_74 ?_
      refine g_eqi n1.1 ?_
      refine g_icmpN_ge (tgt := 83) d_Mo_fill_75 (by decide) (by omega) (by omega) (fun hb_75 => ?_) (fun hb_75 => ?_)
      · refine g_aload_n d_Mo_fill_83 rfl ?_
        refine g_get f_Mo_31 (by assumption) rfl d_Mo_fill_84 ?_
        refine g_iconst (v := nI 1) d_Mo_fill_87 (by decide) ?_
        refine g_iald _ (by assumption) rfl (by omega) (by decide) d_Mo_fill_88 ?_
        refine g_eqi n1.1 ?_
        refine g_iconst (v := nI 1) d_Mo_fill_89 (by decide) ?_
        refine g_isub d_Mo_fill_90 ?_
        refine g_eqi (z := nI (clp (cn1 1) (k / 68 % 17))) (by rw [pk_sub (by omega)]; unfold clp; rw [if_neg (by omega)]) ?_
        exact kk none
      · refine g_iload d_Mo_fill_78 rfl ?_
        refine g_goto (tgt := 91) d_Mo_fill_80 (by decide) ?_
        refine g_eqi (z := nI (clp (cn1 1) (k / 68 % 17))) (by unfold clp; rw [if_pos (by omega)]) ?_
        exact kk none
    have cb := clp_lt (k := k / 68 % 17) p1
    generalize hcb : clp (cn1 1) (k / 68 % 17) = B at cb ⊢
    refine g_istore d_Mo_fill_91 (by decide) ?_
    refine g_cut 117 (fun _ => [some (.ref W), some (.int (nI j)), some (.int (nI k)), some (.int (nI A)), some (.int (nI B)), some (.int (nI (k / 4 % 17)))]) [.int (nI (clp (cn1 2) (k / 4 % 17)))] (fun _ => ?_) (fun kk => ?_)
    rotate_left
    · refine g_iload d_Mo_fill_93 rfl ?_
      refine g_aload_n d_Mo_fill_95 rfl ?_
      refine g_get f_Mo_31 (by assumption) rfl d_Mo_fill_96 ?_
      refine g_iconst (v := nI 2) d_Mo_fill_99 (by decide) ?_
      refine g_iald _ (by assumption) rfl (by omega) (by decide) d_Mo_fill_100 ?_
      refine g_eqi n2.1 ?_
      refine g_icmpN_ge (tgt := 109) d_Mo_fill_101 (by decide) (by omega) (by omega) (fun hb_101 => ?_) (fun hb_101 => ?_)
      · refine g_aload_n d_Mo_fill_109 rfl ?_
        refine g_get f_Mo_31 (by assumption) rfl d_Mo_fill_110 ?_
        refine g_iconst (v := nI 2) d_Mo_fill_113 (by decide) ?_
        refine g_iald _ (by assumption) rfl (by omega) (by decide) d_Mo_fill_114 ?_
        refine g_eqi n2.1 ?_
        refine g_iconst (v := nI 1) d_Mo_fill_115 (by decide) ?_
        refine g_isub d_Mo_fill_116 ?_
        refine g_eqi (z := nI (clp (cn1 2) (k / 4 % 17))) (by rw [pk_sub (by omega)]; unfold clp; rw [if_neg (by omega)]) ?_
        exact kk none
      · refine g_iload d_Mo_fill_104 rfl ?_
        refine g_goto (tgt := 117) d_Mo_fill_106 (by decide) ?_
        refine g_eqi (z := nI (clp (cn1 2) (k / 4 % 17))) (by unfold clp; rw [if_pos (by omega)]) ?_
        exact kk none
    have cc := clp_lt (k := k / 4 % 17) p2
    generalize hcc : clp (cn1 2) (k / 4 % 17) = C at cc ⊢
    have hjk := hjv k
    rw [hca, hcb, hcc] at hjk
    refine g_istore d_Mo_fill_117 (by decide) ?_
    refine g_aload_n d_Mo_fill_119 rfl ?_
    refine g_get f_Mo_34 (by assumption) rfl d_Mo_fill_120 ?_
    refine g_iload_n d_Mo_fill_123 rfl ?_
    refine g_aload_n d_Mo_fill_124 rfl ?_
    refine g_iload_n d_Mo_fill_125 rfl ?_
    refine g_aload_n d_Mo_fill_126 rfl ?_
    refine g_iconst (v := nI 0) d_Mo_fill_127 (by decide) ?_
    refine g_iload_n d_Mo_fill_128 rfl ?_
    refine g_callV s_Mo_144 sv_Mo_cut (by assumption) rfl (g_of_val (k_Mo_cut h2 hC2 0 A (by omega) ca)) (by omega) rfl (by omega) (by omega) rfl (Nat.le_of_ble_eq_true rfl) d_Mo_fill_129 ?_
    rintro _ _ _ ⟨rfl, rfl, rfl⟩
    refine g_aload_n d_Mo_fill_132 rfl ?_
    refine g_iconst (v := nI 1) d_Mo_fill_133 (by decide) ?_
    refine g_iload d_Mo_fill_134 rfl ?_
    refine g_callV s_Mo_144 sv_Mo_cut (by assumption) rfl (g_of_val (k_Mo_cut h2 hC2 1 B (by omega) cb)) (by omega) rfl (by omega) (by omega) rfl (Nat.le_of_ble_eq_true rfl) d_Mo_fill_136 ?_
    rintro _ _ _ ⟨rfl, rfl, rfl⟩
    refine g_aload_n d_Mo_fill_139 rfl ?_
    refine g_iconst (v := nI 2) d_Mo_fill_140 (by decide) ?_
    refine g_iload d_Mo_fill_141 rfl ?_
    refine g_callV s_Mo_144 sv_Mo_cut (by assumption) rfl (g_of_val (k_Mo_cut h2 hC2 2 C (by omega) cc)) (by omega) rfl (by omega) (by omega) rfl (Nat.le_of_ble_eq_true rfl) d_Mo_fill_143 ?_
    rintro _ _ _ ⟨rfl, rfl, rfl⟩
    refine g_iload_n d_Mo_fill_146 rfl ?_
    refine g_iconst (v := nI 4) d_Mo_fill_147 (by decide) ?_
    refine g_irem d_Mo_fill_148 (by decide) ?_
    refine g_eqi (pk_rem (d := 4) (by omega) (by omega) (by omega)) ?_
    refine g_callV s_Mo_141 sv_Mo_verdictBy (by assumption) rfl (g_of_val (k_Mo_verdictBy h2 hL2 j (cs1 0 A) (cs1 1 B) (cs1 2 C) (k % 4) hj (q0 A ca) (q1 B cb) (q2 C cc) (by omega))) (by omega) rfl (by omega) (by omega) rfl (Nat.le_of_ble_eq_true rfl) d_Mo_fill_149 ?_
    rintro _ _ _ ⟨rfl, rfl, rfl⟩
    rw [hjk]
    refine g_iast _ (by assumption) rfl (by omega) (by decide) d_Mo_fill_152 ?_
    refine g_nm (fun M3 e3 f3 => ?_)
    refine g_iinc1 d_Mo_fill_153 rfl (by decide) ?_
    refine g_goto (tgt := 8) d_Mo_fill_156 (by decide) ?_
    refine ih M3 _ _ _ _ e3 (fun p hp => ?_) (fun x hx => (f3 x hx).trans (f2 x hx))
    by_cases e : p = k
    · subst e; rw [pk_us]
    · rw [pk_un e]; exact t2 p (by omega)
theorem k_Mo_counted {ft : Nat → Int32} {tb : Nat → Nat} (h : M W = some (.inr (10, mo W th sz lk rc pl fa))) (hC : o_cu E M W cn cs) (h9 : M (W + 9) = some (g_ia E 19652 ft)) (ht : ∀ x, x < 19652 → ft x = nI (tb x) ∧ tb x < 3) (f : Nat) (hf : f < 4) (e : Bool) : Ctr l E y_Mo_counted 2 [.ref W, .int (nI f), .int (bI e)] N M 0 0 (g_val (some (.int (nI (ctd tb cn f e (nbf f))))) N M) := by
  have hnl := nb_ln f hf
  have hwl := wid_le f hf
  refine ctr_of [some (.ref W), some (.int (nI f)), some (.int (bI e)), none, none, none, none, none, none] (by decide) w_1139 rfl rfl (Nat.le_of_ble_eq_true rfl) (fun Γ => ?_)
  refine g_iload_n d_Mo_counted_0 rfl ?_
  refine g_callS s_Mo_166 sv_Mo_wide (g_of_val (k_Mo_wide f hf)) (by omega) rfl (by omega) (by omega) rfl (Nat.le_of_ble_eq_true rfl) d_Mo_counted_1 ?_
  rintro _ _ _ ⟨rfl, rfl, rfl⟩
  refine g_iload_n d_Mo_counted_4 rfl ?_
  refine g_callS s_Mo_163 sv_Mo_room (g_of_val (k_Mo_room f hf)) (by omega) rfl (by omega) (by omega) rfl (Nat.le_of_ble_eq_true rfl) d_Mo_counted_5 ?_
  rintro _ _ _ ⟨rfl, rfl, rfl⟩
  refine g_imul d_Mo_counted_8 ?_
  refine g_eqi (z := nI (lnf f)) (pk_mul _ _) ?_
  refine g_istore_n d_Mo_counted_9 (by decide) ?_
  refine g_iconst (v := nI 0) d_Mo_counted_10 (by decide) ?_
  refine g_istore d_Mo_counted_11 (by decide) ?_
  refine g_iconst (v := nI 0) d_Mo_counted_13 (by decide) ?_
  refine g_istore d_Mo_counted_14 (by decide) ?_
  refine g_for (P := fun k => ∀ (at_ : Nat) (y6 y7 y8 : Option Value), at_ = k * lnf f → G _ _ _ _ _ _ _ _ _ _ _ _ 16 [some (.ref W), some (.int (nI f)), some (.int (bI e)), some (.int (nI (lnf f))), some (.int (nI (ctd tb cn f e k))), some (.int (nI at_)), y6, y7, y8] [] N M 0 0) (e := nbf f) ?_ ?_ 0 (by omega) 0 none none none (Nat.zero_mul _).symm
  · intro at_ y6 y7 y8 hat
    rw [hnl.1] at hat
    refine g_iload d_Mo_counted_16 rfl ?_
    refine g_sipush (v := nI 19652) d_Mo_counted_18 (by decide) ?_
    refine g_icmpN_ge (tgt := 140) d_Mo_counted_21 (by decide) (by omega) (by omega) (fun hb_21 => ?_) (fun hb_21 => ?_)
    · refine g_iload d_Mo_counted_140 rfl ?_
      exact g_ireturn rfl (by first | rfl | exact bI_nar _) (by omega) (by omega) d_Mo_counted_142 ⟨rfl, rfl, rfl⟩
    · omega
  intro k hk ih at_ y6 y7 y8 hat
  have hlt := nb_lt hf hk
  rw [← hat] at hlt
  have hR : rwm tb f at_ (wid f - 1) ≤ 17 := by
    unfold rwm
    have := sm_bd (F := fun t => if smB tb (at_ + t * roo f) (at_ + (t + 1) * roo f) (roo f) = true then 0 else 1) (n := wid f - 1) (c := 1) (fun i _ => by split <;> omega)
    omega
  have ihs := ih (at_ + lnf f)
  rw [ctd_s, ← hat] at ihs
  generalize hRR : rwm tb f at_ (wid f - 1) = R at hR ihs
  refine g_iload d_Mo_counted_16 rfl ?_
  refine g_sipush (v := nI 19652) d_Mo_counted_18 (by decide) ?_
  refine g_icmpN_ge (tgt := 140) d_Mo_counted_21 (by decide) (by omega) (by omega) (fun hb_21 => ?_) (fun hb_21 => ?_)
  · omega
  refine g_aload_n d_Mo_counted_24 rfl ?_
  refine g_iload_n d_Mo_counted_25 rfl ?_
  refine g_iload d_Mo_counted_26 rfl ?_
  refine g_callV s_Mo_172 sv_Mo_rows (by assumption) rfl (g_of_val ((hRR ▸ k_Mo_rows h h9 ht f at_ hf hlt))) (by omega) rfl (by omega) (by omega) rfl (Nat.le_of_ble_eq_true rfl) d_Mo_counted_28 ?_
  rintro _ _ _ ⟨rfl, rfl, rfl⟩
  refine g_istore d_Mo_counted_31 (by decide) ?_
  refine g_cut 53 (fun _ => [some (.ref W), some (.int (nI f)), some (.int (bI e)), some (.int (nI (lnf f))), some (.int (nI (ctd tb cn f e k))), some (.int (nI at_)), some (.int (nI R)), y7, y8]) [.int (bI (cdk tb cn f k 0))] (fun _ => ?_) (fun kk => ?_)
  rotate_left
  · refine g_iload d_Mo_counted_33 rfl ?_
    refine g_iconst (v := nI 1) d_Mo_counted_35 (by decide) ?_
    refine g_icmpN_le (tgt := 52) d_Mo_counted_36 (by decide) (by omega) (by omega) (fun hb_36 => ?_) (fun hb_36 => ?_)
    · refine g_iconst (v := nI 0) d_Mo_counted_52 (by decide) ?_
      refine g_Fa (b := cdk tb cn f k 0) (by rw [cdk_0, ← hat, hRR, decide_eq_false (by omega), Bool.false_and]) ?_
      exact kk none
    · refine g_aload_n d_Mo_counted_39 rfl ?_
      refine g_iload d_Mo_counted_40 rfl ?_
      refine g_callV s_Mo_175 sv_Mo_isReal (by assumption) rfl (g_of_val (k_Mo_isReal h hC at_ (by omega))) (by omega) rfl (by omega) (by omega) rfl (Nat.le_of_ble_eq_true rfl) d_Mo_counted_42 ?_
      rintro _ _ _ ⟨rfl, rfl, rfl⟩
      first | refine g_ifB_eq (tgt := 52) d_Mo_counted_45 (by decide) (fun hb_45 => ?_) (fun hb_45 => ?_) | refine g_ifN_eq (tgt := 52) d_Mo_counted_45 (by decide) (by omega) (fun hb_45 => ?_) (fun hb_45 => ?_)
      · refine g_iconst (v := nI 0) d_Mo_counted_52 (by decide) ?_
        refine g_Fa (b := cdk tb cn f k 0) (by rw [cdk_0, ← hat, hb_45, Bool.and_false]) ?_
        exact kk none
      · refine g_iconst (v := nI 1) d_Mo_counted_48 (by decide) ?_
        refine g_goto (tgt := 53) d_Mo_counted_49 (by decide) ?_
        refine g_Tr (b := cdk tb cn f k 0) (by rw [cdk_0, ← hat, hRR, hb_45, decide_eq_true (by omega), Bool.and_true]) ?_
        exact kk none
  refine g_istore d_Mo_counted_53 (by decide) ?_
  refine g_iconst (v := nI 0) d_Mo_counted_55 (by decide) ?_
  refine g_istore d_Mo_counted_56 (by decide) ?_
  refine g_cut 107 (fun z => [some (.ref W), some (.int (nI f)), some (.int (bI e)), some (.int (nI (lnf f))), some (.int (nI (ctd tb cn f e k))), some (.int (nI at_)), some (.int (nI R)), some (.int (bI (cdd tb cn f k))), z]) [] (fun z => ?_) (fun kk => ?_)
  · refine g_iload d_Mo_counted_107 rfl ?_
    refine g_iload d_Mo_counted_109 rfl ?_
    first | refine g_ifB_eq (tgt := 127) d_Mo_counted_111 (by decide) (fun hb_111 => ?_) (fun hb_111 => ?_) | refine g_ifN_eq (tgt := 127) d_Mo_counted_111 (by decide) (by omega) (fun hb_111 => ?_) (fun hb_111 => ?_)
    · rw [if_neg (by rw [hb_111]; decide)] at ihs
      refine g_iconst (v := nI 0) d_Mo_counted_127 (by decide) ?_
      refine g_iadd d_Mo_counted_128 ?_
      refine g_eqi (nI_add _ _) ?_
      refine g_istore d_Mo_counted_129 (by decide) ?_
      refine g_iload d_Mo_counted_131 rfl ?_
      refine g_iload_n d_Mo_counted_133 rfl ?_
      refine g_iadd d_Mo_counted_134 ?_
      refine g_eqi (nI_add _ _) ?_
      refine g_istore d_Mo_counted_135 (by decide) ?_
      refine g_goto (tgt := 16) d_Mo_counted_137 (by decide) ?_
      exact ihs _ _ _ (by rw [hat, Nat.succ_mul])
    · rw [if_pos hb_111] at ihs
      refine g_iload_n d_Mo_counted_114 rfl ?_
      first | refine g_ifB_eq (tgt := 123) d_Mo_counted_115 (by decide) (fun hb_115 => ?_) (fun hb_115 => ?_) | refine g_ifN_eq (tgt := 123) d_Mo_counted_115 (by decide) (by omega) (fun hb_115 => ?_) (fun hb_115 => ?_)
      · rw [if_neg (by rw [hb_115]; decide)] at ihs
        refine g_iconst (v := nI 1) d_Mo_counted_123 (by decide) ?_
        refine g_goto (tgt := 128) d_Mo_counted_124 (by decide) ?_
        refine g_iadd d_Mo_counted_128 ?_
        refine g_eqi (nI_add _ _) ?_
        refine g_istore d_Mo_counted_129 (by decide) ?_
        refine g_iload d_Mo_counted_131 rfl ?_
        refine g_iload_n d_Mo_counted_133 rfl ?_
        refine g_iadd d_Mo_counted_134 ?_
        refine g_eqi (nI_add _ _) ?_
        refine g_istore d_Mo_counted_135 (by decide) ?_
        refine g_goto (tgt := 16) d_Mo_counted_137 (by decide) ?_
        exact ihs _ _ _ (by rw [hat, Nat.succ_mul])
      · rw [if_pos hb_115] at ihs
        refine g_iload d_Mo_counted_118 rfl ?_
        refine g_goto (tgt := 128) d_Mo_counted_120 (by decide) ?_
        refine g_iadd d_Mo_counted_128 ?_
        refine g_eqi (nI_add _ _) ?_
        refine g_istore d_Mo_counted_129 (by decide) ?_
        refine g_iload d_Mo_counted_131 rfl ?_
        refine g_iload_n d_Mo_counted_133 rfl ?_
        refine g_iadd d_Mo_counted_134 ?_
        refine g_eqi (nI_add _ _) ?_
        refine g_istore d_Mo_counted_135 (by decide) ?_
        refine g_goto (tgt := 16) d_Mo_counted_137 (by decide) ?_
        exact ihs _ _ _ (by rw [hat, Nat.succ_mul])
  refine g_for (P := fun t => ∀ (bf : Nat), bf = t * lnf f → G _ _ _ _ _ _ _ _ _ _ _ _ 58 [some (.ref W), some (.int (nI f)), some (.int (bI e)), some (.int (nI (lnf f))), some (.int (nI (ctd tb cn f e k))), some (.int (nI at_)), some (.int (nI R)), some (.int (bI (cdk tb cn f k t))), some (.int (nI bf))] [] N M 0 0) (e := k) ?_ ?_ 0 (by omega) 0 (Nat.zero_mul _).symm
  · intro bf hbf
    rw [cdk_end]
    refine g_iload d_Mo_counted_58 rfl ?_
    refine g_iload d_Mo_counted_60 rfl ?_
    refine g_icmpN_ge (tgt := 107) d_Mo_counted_62 (by decide) (by omega) (by omega) (fun hb_62 => ?_) (fun hb_62 => ?_)
    · exact kk _
    · omega
  intro t ht' iht bf hbf
  have hbl : bf + lnf f ≤ at_ := by
    rw [hbf, hat, ← Nat.succ_mul]
    exact Nat.mul_le_mul_right _ ht'
  have iht2 := iht (bf + lnf f) (by rw [hbf, Nat.succ_mul])
  rw [cdk_s, ← hbf, ← hat] at iht2
  refine g_iload d_Mo_counted_58 rfl ?_
  refine g_iload d_Mo_counted_60 rfl ?_
  refine g_icmpN_ge (tgt := 107) d_Mo_counted_62 (by decide) (by omega) (by omega) (fun hb_62 => ?_) (fun hb_62 => ?_)
  · omega
  refine g_iload d_Mo_counted_65 rfl ?_
  first | refine g_ifB_eq (tgt := 107) d_Mo_counted_67 (by decide) (fun hb_67 => ?_) (fun hb_67 => ?_) | refine g_ifN_eq (tgt := 107) d_Mo_counted_67 (by decide) (by omega) (fun hb_67 => ?_) (fun hb_67 => ?_)
  · rw [hb_67]
    rw [cdk_no (Nat.le_of_lt ht') hb_67] at kk
    exact kk _
  rw [hb_67, Bool.true_and] at iht2
  refine g_aload_n d_Mo_counted_70 rfl ?_
  refine g_iload d_Mo_counted_71 rfl ?_
  refine g_callV s_Mo_175 sv_Mo_isReal (by assumption) rfl (g_of_val (k_Mo_isReal h hC bf (by omega))) (by omega) rfl (by omega) (by omega) rfl (Nat.le_of_ble_eq_true rfl) d_Mo_counted_73 ?_
  rintro _ _ _ ⟨rfl, rfl, rfl⟩
  first | refine g_ifB_eq (tgt := 91) d_Mo_counted_76 (by decide) (fun hb_76 => ?_) (fun hb_76 => ?_) | refine g_ifN_eq (tgt := 91) d_Mo_counted_76 (by decide) (by omega) (fun hb_76 => ?_) (fun hb_76 => ?_)
  · refine g_iconst (v := nI 1) d_Mo_counted_91 (by decide) ?_
    refine g_goto (tgt := 96) d_Mo_counted_92 (by decide) ?_
    refine g_Tr (b := !(rea cn bf && smB tb bf at_ (lnf f))) (by rw [hb_76]; rfl) ?_
    refine g_istore d_Mo_counted_96 (by decide) ?_
    refine g_iload d_Mo_counted_98 rfl ?_
    refine g_iload_n d_Mo_counted_100 rfl ?_
    refine g_iadd d_Mo_counted_101 ?_
    refine g_eqi (nI_add _ _) ?_
    refine g_istore d_Mo_counted_102 (by decide) ?_
    refine g_goto (tgt := 58) d_Mo_counted_104 (by decide) ?_
    exact iht2
  · refine g_aload_n d_Mo_counted_79 rfl ?_
    refine g_iload d_Mo_counted_80 rfl ?_
    refine g_iload d_Mo_counted_82 rfl ?_
    refine g_iload_n d_Mo_counted_84 rfl ?_
    refine g_callV s_Mo_169 sv_Mo_same (by assumption) rfl (g_of_val (k_Mo_same h h9 ht bf at_ (lnf f) (by omega) (by omega))) (by omega) rfl (by omega) (by omega) rfl (Nat.le_of_ble_eq_true rfl) d_Mo_counted_85 ?_
    rintro _ _ _ ⟨rfl, rfl, rfl⟩
    first | refine g_ifB_ne (tgt := 95) d_Mo_counted_88 (by decide) (fun hb_88 => ?_) (fun hb_88 => ?_) | refine g_ifN_ne (tgt := 95) d_Mo_counted_88 (by decide) (by omega) (fun hb_88 => ?_) (fun hb_88 => ?_)
    · refine g_iconst (v := nI 0) d_Mo_counted_95 (by decide) ?_
      refine g_Fa (b := !(rea cn bf && smB tb bf at_ (lnf f))) (by rw [hb_76, show smB tb bf at_ (lnf f) = true from hb_88]; rfl) ?_
      refine g_istore d_Mo_counted_96 (by decide) ?_
      refine g_iload d_Mo_counted_98 rfl ?_
      refine g_iload_n d_Mo_counted_100 rfl ?_
      refine g_iadd d_Mo_counted_101 ?_
      refine g_eqi (nI_add _ _) ?_
      refine g_istore d_Mo_counted_102 (by decide) ?_
      refine g_goto (tgt := 58) d_Mo_counted_104 (by decide) ?_
      exact iht2
    · refine g_iconst (v := nI 1) d_Mo_counted_91 (by decide) ?_
      refine g_goto (tgt := 96) d_Mo_counted_92 (by decide) ?_
      refine g_Tr (b := !(rea cn bf && smB tb bf at_ (lnf f))) (by rw [show smB tb bf at_ (lnf f) = false from hb_88, Bool.and_false]; rfl) ?_
      refine g_istore d_Mo_counted_96 (by decide) ?_
      refine g_iload d_Mo_counted_98 rfl ?_
      refine g_iload_n d_Mo_counted_100 rfl ?_
      refine g_iadd d_Mo_counted_101 ?_
      refine g_eqi (nI_add _ _) ?_
      refine g_istore d_Mo_counted_102 (by decide) ?_
      refine g_goto (tgt := 58) d_Mo_counted_104 (by decide) ?_
      exact iht2
theorem OM.tabs {M' : gM} {ft : Nat → Int32} (h : OM E M W th tn ts mm rr gn gs) (hC : ∃ cn cs, o_cu E M' W cn cs) (h9 : M' (W + 9) = some (g_ia E 19652 ft)) (hk : ∀ x, x ≠ W + 7 → x ≠ W + 8 → x ≠ W + 9 → M' x = M x) : OM E M' W th tn ts mm rr gn gs := by
  obtain ⟨⟨rc, pl, fa, hO⟩, hT, hL, hK, -, -, ⟨d, h4⟩, ⟨e, h5⟩, f, h6⟩ := h
  exact ⟨⟨rc, pl, fa, (hk _ (by omega) (by omega) (by omega)).trans hO⟩, hT.kept (hk _ (by omega) (by omega) (by omega)), hL.kept (fun x _ _ => hk x (by omega) (by omega) (by omega)), hK.kept (hk _ (by omega) (by omega) (by omega)), hC, ⟨ft, h9⟩, ⟨d, (hk _ (by omega) (by omega) (by omega)).trans h4⟩, ⟨e, (hk _ (by omega) (by omega) (by omega)).trans h5⟩, f, (hk _ (by omega) (by omega) (by omega)).trans h6⟩
theorem k_Mo_nodes (h : OM E M W th tn ts mm rr gn gs) (j f : Nat) (hj : j < 2) (hf : f < 4) (X : Nat) (hX : nodesP (rr j) (mm j) f X) : Ctr l E y_Mo_nodes 5 [.ref W, .int (nI j), .int (nI f)] N M 0 0 (g_ret (fun z N' M' => z = some (.int (nI X)) ∧ N' = N ∧ OM E M' W (nI 0) tn ts mm rr gn gs ∧ ∀ x, (x < W ∨ W + 12 < x) → M' x = M x)) := by
  obtain ⟨⟨rc, pl, fa, hO⟩, hT, hL, hK, hS⟩ := h
  have h : OM E M W th tn ts mm rr gn gs := ⟨⟨rc, pl, fa, hO⟩, hT, hL, hK, hS⟩
  have hin := inI_yes (j := j) (k := 1) (by omega) (by omega)
  have hin2 := inI_yes (j := f) (k := 3) (by omega) (by omega)
  have hm := (hL.1 j hj).1
  refine ctr_of [some (.ref W), some (.int (nI j)), some (.int (nI f))] (by decide) w_1128 rfl rfl (Nat.le_of_ble_eq_true rfl) (fun Γ => ?_)
  refine g_aload_n d_Mo_nodes_0 rfl ?_
  refine g_iload_n d_Mo_nodes_1 rfl ?_
  refine g_iconst (v := nI 0) d_Mo_nodes_2 (by decide) ?_
  refine g_iconst (v := nI 1) d_Mo_nodes_3 (by decide) ?_
  refine g_callS s_Mo_112 sv_Mo_in (g_of_val (k_Mo_in _ _ _)) (by omega) rfl (by omega) (by omega) rfl (Nat.le_of_ble_eq_true rfl) d_Mo_nodes_4 ?_
  rintro _ _ _ ⟨rfl, rfl, rfl⟩
  first | refine g_ifB_ne (tgt := 14) d_Mo_nodes_7 (by decide) (fun hb_7 => ?_) (fun hb_7 => ?_) | refine g_ifN_ne (tgt := 14) d_Mo_nodes_7 (by decide) (by omega) (fun hb_7 => ?_) (fun hb_7 => ?_)
  rotate_left
  · rw [hin] at hb_7; cases hb_7
  refine g_iconst (v := nI 0) d_Mo_nodes_14 (by decide) ?_
  refine g_iload_n d_Mo_nodes_15 rfl ?_
  refine g_iconst (v := nI 0) d_Mo_nodes_16 (by decide) ?_
  refine g_iconst (v := nI 3) d_Mo_nodes_17 (by decide) ?_
  refine g_callS s_Mo_112 sv_Mo_in (g_of_val (k_Mo_in _ _ _)) (by omega) rfl (by omega) (by omega) rfl (Nat.le_of_ble_eq_true rfl) d_Mo_nodes_18 ?_
  rintro _ _ _ ⟨rfl, rfl, rfl⟩
  first | refine g_ifB_ne (tgt := 28) d_Mo_nodes_21 (by decide) (fun hb_21 => ?_) (fun hb_21 => ?_) | refine g_ifN_ne (tgt := 28) d_Mo_nodes_21 (by decide) (by omega) (fun hb_21 => ?_) (fun hb_21 => ?_)
  rotate_left
  · rw [hin2] at hb_21; cases hb_21
  refine g_iconst (v := nI 0) d_Mo_nodes_28 (by decide) ?_
  refine g_callV s_Mo_57 sv_Mo_refuse (by assumption) rfl (k_Mo_refuse hO false false) (by omega) rfl (by omega) (by omega) rfl (Nat.le_of_ble_eq_true rfl) d_Mo_nodes_29 ?_
  rintro v' N' M1 ⟨rfl, rfl, e1, f1⟩
  have hL1 := hL.kept (M' := M1) (fun x _ _ => f1 x (by omega))
  obtain ⟨⟨cn, cs, hC⟩, ⟨ft0, hf0⟩, -⟩ := id hS
  have hC1 := hC.kept (M' := M1) (fun x _ => f1 x (by omega))
  have h91 := (f1 (W + 9) (by omega)).trans hf0
  first | refine g_ifB_eq (tgt := 37) d_Mo_nodes_32 (by decide) (fun hb_32 => ?_) (fun hb_32 => ?_) | refine g_ifN_eq (tgt := 37) d_Mo_nodes_32 (by decide) (by omega) (fun hb_32 => ?_) (fun hb_32 => ?_)
  rotate_left
  · cases hb_32
  refine g_aload_n d_Mo_nodes_37 rfl ?_
  refine g_iload_n d_Mo_nodes_38 rfl ?_
  refine g_callV s_Mo_178 sv_Mo_fill (by assumption) rfl (k_Mo_fill e1 hL1 hC1 h91 j hj) (by omega) rfl (by omega) (by omega) rfl (Nat.le_of_ble_eq_true rfl) d_Mo_nodes_39 ?_
  rintro v' N' M2 ⟨rfl, rfl, ⟨cn2, cs2, ft, hC2, hg2, t1, t2⟩, f2⟩
  have e2 := (f2 W (by omega) (by omega) (by omega)).trans e1
  have hbx := gdc_bxr hj hm hg2
  have hnt := nodes_tie hm hbx (tb := fun p => jv (rr j) (mm j) (uo cn2 cs2 p)) (fun _ _ => rfl) hf hX
  refine g_aload_n d_Mo_nodes_42 rfl ?_
  refine g_iload_n d_Mo_nodes_43 rfl ?_
  refine g_iconst (v := nI 0) d_Mo_nodes_44 (by decide) ?_
  refine g_callV s_Mo_181 sv_Mo_counted (by assumption) rfl (g_of_val ((show nI 0 = bI false from rfl) ▸ k_Mo_counted e2 hC2 t1 (tb := fun p => jv (rr j) (mm j) (uo cn2 cs2 p)) (fun x hx => ⟨t2 x hx, jdg_lt3 (hL.1 j hj).2 _⟩) f hf false)) (by omega) rfl (by omega) (by omega) rfl (Nat.le_of_ble_eq_true rfl) d_Mo_nodes_45 ?_
  rintro _ _ _ ⟨rfl, rfl, rfl⟩
  rw [← hnt]
  exact g_ireturn rfl rfl (by omega) (by omega) d_Mo_nodes_48 ⟨_, rfl, rfl, rfl, (h.own e1 f1).tabs ⟨cn2, cs2, hC2⟩ t1 f2, fun x hx => (f2 x (by omega) (by omega) (by omega)).trans (f1 x (by omega))⟩
theorem x_Mo_nodes (h : OM E M W th tn ts mm rr gn gs) (j : Nat) (hj : j < 2) (y : Int32) (hy : noN y 4) : Ctr l E y_Mo_nodes 5 [.ref W, .int (nI j), .int y] N M 0 0 (g_ret (fun v N' M' => v = some (.int (nI 0)) ∧ N' = N ∧ OM E M' W (nI 2) tn ts mm rr gn gs ∧ ∀ x, x ≠ W → M' x = M x)) := by
  have h0 := h
  obtain ⟨⟨rc, pl, fa, hO⟩, hT, hL, hK, hS⟩ := h
  have hin := inI_yes (j := j) (k := 1) (by omega) (by omega)
  have hin2 := inI_no (k := 3) hy (by omega)
  refine ctr_of [some (.ref W), some (.int (nI j)), some (.int y)] (by decide) w_1128 rfl rfl (Nat.le_of_ble_eq_true rfl) (fun Γ => ?_)
  refine g_aload_n d_Mo_nodes_0 rfl ?_
  refine g_iload_n d_Mo_nodes_1 rfl ?_
  refine g_iconst (v := nI 0) d_Mo_nodes_2 (by decide) ?_
  refine g_iconst (v := nI 1) d_Mo_nodes_3 (by decide) ?_
  refine g_callS s_Mo_112 sv_Mo_in (g_of_val (k_Mo_in _ _ _)) (by omega) rfl (by omega) (by omega) rfl (Nat.le_of_ble_eq_true rfl) d_Mo_nodes_4 ?_
  rintro _ _ _ ⟨rfl, rfl, rfl⟩
  first | refine g_ifB_ne (tgt := 14) d_Mo_nodes_7 (by decide) (fun hb_7 => ?_) (fun hb_7 => ?_) | refine g_ifN_ne (tgt := 14) d_Mo_nodes_7 (by decide) (by omega) (fun hb_7 => ?_) (fun hb_7 => ?_)
  · refine g_iconst (v := nI 0) d_Mo_nodes_14 (by decide) ?_
    refine g_iload_n d_Mo_nodes_15 rfl ?_
    refine g_iconst (v := nI 0) d_Mo_nodes_16 (by decide) ?_
    refine g_iconst (v := nI 3) d_Mo_nodes_17 (by decide) ?_
    refine g_callS s_Mo_112 sv_Mo_in (g_of_val (k_Mo_in _ _ _)) (by omega) rfl (by omega) (by omega) rfl (Nat.le_of_ble_eq_true rfl) d_Mo_nodes_18 ?_
    rintro _ _ _ ⟨rfl, rfl, rfl⟩
    first | refine g_ifB_ne (tgt := 28) d_Mo_nodes_21 (by decide) (fun hb_21 => ?_) (fun hb_21 => ?_) | refine g_ifN_ne (tgt := 28) d_Mo_nodes_21 (by decide) (by omega) (fun hb_21 => ?_) (fun hb_21 => ?_)
    · rw [hin2] at hb_21; cases hb_21
    · refine g_iconst (v := nI 1) d_Mo_nodes_24 (by decide) ?_
      refine g_goto (tgt := 29) d_Mo_nodes_25 (by decide) ?_
      refine g_callV s_Mo_57 sv_Mo_refuse (by assumption) rfl (k_Mo_refuse hO false true) (by omega) rfl (by omega) (by omega) rfl (Nat.le_of_ble_eq_true rfl) d_Mo_nodes_29 ?_
      rintro v' N' M1 ⟨rfl, rfl, e1, f1⟩
      first | refine g_ifB_eq (tgt := 37) d_Mo_nodes_32 (by decide) (fun hb_32 => ?_) (fun hb_32 => ?_) | refine g_ifN_eq (tgt := 37) d_Mo_nodes_32 (by decide) (by omega) (fun hb_32 => ?_) (fun hb_32 => ?_)
      · exact absurd hb_32 (by decide)
      · refine g_iconst (v := nI 0) d_Mo_nodes_35 (by decide) ?_
        exact g_ireturn rfl rfl (by omega) (by omega) d_Mo_nodes_36 ⟨_, rfl, rfl, rfl, h0.own e1 f1, f1⟩
  · rw [hin] at hb_7; cases hb_7
theorem xl_Mo_nodes (h : OM E M W th tn ts mm rr gn gs) (x y : Int32) (hx : noN x 2) : Ctr l E y_Mo_nodes 5 [.ref W, .int x, .int y] N M 0 0 (g_ret (fun v N' M' => v = some (.int (nI 0)) ∧ N' = N ∧ OM E M' W (nI 1) tn ts mm rr gn gs ∧ ∀ x, x ≠ W → M' x = M x)) := by
  have h0 := h
  obtain ⟨⟨rc, pl, fa, hO⟩, hT, hL, hK, hS⟩ := h
  have hin := inI_no (k := 1) hx (by omega)
  refine ctr_of [some (.ref W), some (.int x), some (.int y)] (by decide) w_1128 rfl rfl (Nat.le_of_ble_eq_true rfl) (fun Γ => ?_)
  refine g_aload_n d_Mo_nodes_0 rfl ?_
  refine g_iload_n d_Mo_nodes_1 rfl ?_
  refine g_iconst (v := nI 0) d_Mo_nodes_2 (by decide) ?_
  refine g_iconst (v := nI 1) d_Mo_nodes_3 (by decide) ?_
  refine g_callS s_Mo_112 sv_Mo_in (g_of_val (k_Mo_in _ _ _)) (by omega) rfl (by omega) (by omega) rfl (Nat.le_of_ble_eq_true rfl) d_Mo_nodes_4 ?_
  rintro _ _ _ ⟨rfl, rfl, rfl⟩
  first | refine g_ifB_ne (tgt := 14) d_Mo_nodes_7 (by decide) (fun hb_7 => ?_) (fun hb_7 => ?_) | refine g_ifN_ne (tgt := 14) d_Mo_nodes_7 (by decide) (by omega) (fun hb_7 => ?_) (fun hb_7 => ?_)
  · rw [hin] at hb_7; cases hb_7
  · refine g_iconst (v := nI 1) d_Mo_nodes_10 (by decide) ?_
    refine g_goto (tgt := 15) d_Mo_nodes_11 (by decide) ?_
    refine g_iload_n d_Mo_nodes_15 rfl ?_
    refine g_iconst (v := nI 0) d_Mo_nodes_16 (by decide) ?_
    refine g_iconst (v := nI 3) d_Mo_nodes_17 (by decide) ?_
    refine g_callS s_Mo_112 sv_Mo_in (g_of_val (k_Mo_in _ _ _)) (by omega) rfl (by omega) (by omega) rfl (Nat.le_of_ble_eq_true rfl) d_Mo_nodes_18 ?_
    rintro _ _ _ ⟨rfl, rfl, rfl⟩
    first | refine g_ifB_ne (tgt := 28) d_Mo_nodes_21 (by decide) (fun hb_21 => ?_) (fun hb_21 => ?_) | refine g_ifN_ne (tgt := 28) d_Mo_nodes_21 (by decide) (by omega) (fun hb_21 => ?_) (fun hb_21 => ?_)
    · refine g_iconst (v := nI 0) d_Mo_nodes_28 (by decide) ?_
      refine g_callV s_Mo_57 sv_Mo_refuse (by assumption) rfl (k_Mo_refuse hO true false) (by omega) rfl (by omega) (by omega) rfl (Nat.le_of_ble_eq_true rfl) d_Mo_nodes_29 ?_
      rintro v' N' M1 ⟨rfl, rfl, e1, f1⟩
      first | refine g_ifB_eq (tgt := 37) d_Mo_nodes_32 (by decide) (fun hb_32 => ?_) (fun hb_32 => ?_) | refine g_ifN_eq (tgt := 37) d_Mo_nodes_32 (by decide) (by omega) (fun hb_32 => ?_) (fun hb_32 => ?_)
      · exact absurd hb_32 (by decide)
      · refine g_iconst (v := nI 0) d_Mo_nodes_35 (by decide) ?_
        exact g_ireturn rfl rfl (by omega) (by omega) d_Mo_nodes_36 ⟨_, rfl, rfl, rfl, h0.own e1 f1, f1⟩
    · refine g_iconst (v := nI 1) d_Mo_nodes_24 (by decide) ?_
      refine g_goto (tgt := 29) d_Mo_nodes_25 (by decide) ?_
      refine g_callV s_Mo_57 sv_Mo_refuse (by assumption) rfl (k_Mo_refuse hO true true) (by omega) rfl (by omega) (by omega) rfl (Nat.le_of_ble_eq_true rfl) d_Mo_nodes_29 ?_
      rintro v' N' M1 ⟨rfl, rfl, e1, f1⟩
      first | refine g_ifB_eq (tgt := 37) d_Mo_nodes_32 (by decide) (fun hb_32 => ?_) (fun hb_32 => ?_) | refine g_ifN_eq (tgt := 37) d_Mo_nodes_32 (by decide) (by omega) (fun hb_32 => ?_) (fun hb_32 => ?_)
      · exact absurd hb_32 (by decide)
      · refine g_iconst (v := nI 0) d_Mo_nodes_35 (by decide) ?_
        exact g_ireturn rfl rfl (by omega) (by omega) d_Mo_nodes_36 ⟨_, rfl, rfl, rfl, h0.own e1 f1, f1⟩
theorem k_Mo_edges (h : OM E M W th tn ts mm rr gn gs) (j : Nat) (hj : j < 2) (X : Nat) (hX : edgesP (rr j) (mm j) X) : Ctr l E y_Mo_edges 5 [.ref W, .int (nI j)] N M 0 0 (g_ret (fun z N' M' => z = some (.int (nI X)) ∧ N' = N ∧ OM E M' W (nI 0) tn ts mm rr gn gs ∧ ∀ x, (x < W ∨ W + 12 < x) → M' x = M x)) := by
  obtain ⟨⟨rc, pl, fa, hO⟩, hT, hL, hK, hS⟩ := h
  have h : OM E M W th tn ts mm rr gn gs := ⟨⟨rc, pl, fa, hO⟩, hT, hL, hK, hS⟩
  have hin := inI_yes (j := j) (k := 1) (by omega) (by omega)
  have hm := (hL.1 j hj).1
  refine ctr_of [some (.ref W), some (.int (nI j))] (by decide) w_1158 rfl rfl (Nat.le_of_ble_eq_true rfl) (fun Γ => ?_)
  refine g_aload_n d_Mo_edges_0 rfl ?_
  refine g_iload_n d_Mo_edges_1 rfl ?_
  refine g_iconst (v := nI 0) d_Mo_edges_2 (by decide) ?_
  refine g_iconst (v := nI 1) d_Mo_edges_3 (by decide) ?_
  refine g_callS s_Mo_112 sv_Mo_in (g_of_val (k_Mo_in _ _ _)) (by omega) rfl (by omega) (by omega) rfl (Nat.le_of_ble_eq_true rfl) d_Mo_edges_4 ?_
  rintro _ _ _ ⟨rfl, rfl, rfl⟩
  first | refine g_ifB_ne (tgt := 14) d_Mo_edges_7 (by decide) (fun hb_7 => ?_) (fun hb_7 => ?_) | refine g_ifN_ne (tgt := 14) d_Mo_edges_7 (by decide) (by omega) (fun hb_7 => ?_) (fun hb_7 => ?_)
  rotate_left
  · rw [hin] at hb_7; cases hb_7
  refine g_iconst (v := nI 0) d_Mo_edges_14 (by decide) ?_
  refine g_iconst (v := nI 0) d_Mo_edges_15 (by decide) ?_
  refine g_callV s_Mo_57 sv_Mo_refuse (by assumption) rfl (k_Mo_refuse hO false false) (by omega) rfl (by omega) (by omega) rfl (Nat.le_of_ble_eq_true rfl) d_Mo_edges_16 ?_
  rintro v' N' M1 ⟨rfl, rfl, e1, f1⟩
  have hL1 := hL.kept (M' := M1) (fun x _ _ => f1 x (by omega))
  obtain ⟨⟨cn, cs, hC⟩, ⟨ft0, hf0⟩, -⟩ := id hS
  have hC1 := hC.kept (M' := M1) (fun x _ => f1 x (by omega))
  have h91 := (f1 (W + 9) (by omega)).trans hf0
  first | refine g_ifB_eq (tgt := 24) d_Mo_edges_19 (by decide) (fun hb_19 => ?_) (fun hb_19 => ?_) | refine g_ifN_eq (tgt := 24) d_Mo_edges_19 (by decide) (by omega) (fun hb_19 => ?_) (fun hb_19 => ?_)
  rotate_left
  · cases hb_19
  refine g_aload_n d_Mo_edges_24 rfl ?_
  refine g_iload_n d_Mo_edges_25 rfl ?_
  refine g_callV s_Mo_178 sv_Mo_fill (by assumption) rfl (k_Mo_fill e1 hL1 hC1 h91 j hj) (by omega) rfl (by omega) (by omega) rfl (Nat.le_of_ble_eq_true rfl) d_Mo_edges_26 ?_
  rintro v' N' M2 ⟨rfl, rfl, ⟨cn2, cs2, ft, hC2, hg2, t1, t2⟩, f2⟩
  have e2 := (f2 W (by omega) (by omega) (by omega)).trans e1
  have hbx := gdc_bxr hj hm hg2
  have hnt := edges_tie hm hbx (tb := fun p => jv (rr j) (mm j) (uo cn2 cs2 p)) (fun _ _ => rfl) hX
  have hct := fun (N : Nat) (f : Nat) (hf : f < 4) => (show nI 1 = bI true from rfl) ▸ k_Mo_counted (l := l) (N := N) e2 hC2 t1 (tb := fun p => jv (rr j) (mm j) (uo cn2 cs2 p)) (fun x hx => ⟨t2 x hx, jdg_lt3 (hL.1 j hj).2 _⟩) f hf true
  refine g_aload_n d_Mo_edges_29 rfl ?_
  refine g_iconst (v := nI 0) d_Mo_edges_30 (by decide) ?_
  refine g_iconst (v := nI 1) d_Mo_edges_31 (by decide) ?_
  refine g_callV s_Mo_181 sv_Mo_counted (by assumption) rfl (g_of_val (hct _ 0 (by omega))) (by omega) rfl (by omega) (by omega) rfl (Nat.le_of_ble_eq_true rfl) d_Mo_edges_32 ?_
  rintro _ _ _ ⟨rfl, rfl, rfl⟩
  refine g_aload_n d_Mo_edges_35 rfl ?_
  refine g_iconst (v := nI 1) d_Mo_edges_36 (by decide) ?_
  refine g_iconst (v := nI 1) d_Mo_edges_37 (by decide) ?_
  refine g_callV s_Mo_181 sv_Mo_counted (by assumption) rfl (g_of_val (hct _ 1 (by omega))) (by omega) rfl (by omega) (by omega) rfl (Nat.le_of_ble_eq_true rfl) d_Mo_edges_38 ?_
  rintro _ _ _ ⟨rfl, rfl, rfl⟩
  refine g_iadd d_Mo_edges_41 ?_
  refine g_eqi (nI_add _ _) ?_
  refine g_aload_n d_Mo_edges_42 rfl ?_
  refine g_iconst (v := nI 2) d_Mo_edges_43 (by decide) ?_
  refine g_iconst (v := nI 1) d_Mo_edges_44 (by decide) ?_
  refine g_callV s_Mo_181 sv_Mo_counted (by assumption) rfl (g_of_val (hct _ 2 (by omega))) (by omega) rfl (by omega) (by omega) rfl (Nat.le_of_ble_eq_true rfl) d_Mo_edges_45 ?_
  rintro _ _ _ ⟨rfl, rfl, rfl⟩
  refine g_iadd d_Mo_edges_48 ?_
  refine g_eqi (nI_add _ _) ?_
  refine g_aload_n d_Mo_edges_49 rfl ?_
  refine g_iconst (v := nI 3) d_Mo_edges_50 (by decide) ?_
  refine g_iconst (v := nI 1) d_Mo_edges_51 (by decide) ?_
  refine g_callV s_Mo_181 sv_Mo_counted (by assumption) rfl (g_of_val (hct _ 3 (by omega))) (by omega) rfl (by omega) (by omega) rfl (Nat.le_of_ble_eq_true rfl) d_Mo_edges_52 ?_
  rintro _ _ _ ⟨rfl, rfl, rfl⟩
  refine g_iadd d_Mo_edges_55 ?_
  refine g_eqi (nI_add _ _) ?_
  rw [← hnt]
  exact g_ireturn rfl rfl (by omega) (by omega) d_Mo_edges_56 ⟨_, rfl, rfl, rfl, (h.own e1 f1).tabs ⟨cn2, cs2, hC2⟩ t1 f2, fun x hx => (f2 x (by omega) (by omega) (by omega)).trans (f1 x (by omega))⟩
theorem x_Mo_edges (h : OM E M W th tn ts mm rr gn gs) (x : Int32) (hx : noN x 2) : Ctr l E y_Mo_edges 5 [.ref W, .int x] N M 0 0 (g_ret (fun v N' M' => v = some (.int (nI 0)) ∧ N' = N ∧ OM E M' W (nI 1) tn ts mm rr gn gs ∧ ∀ x, x ≠ W → M' x = M x)) := by
  obtain ⟨⟨rc, pl, fa, hO⟩, hT, hL, hK, hS⟩ := h
  have h : OM E M W th tn ts mm rr gn gs := ⟨⟨rc, pl, fa, hO⟩, hT, hL, hK, hS⟩
  have hin := inI_no (k := 1) hx (by omega)
  refine ctr_of [some (.ref W), some (.int x)] (by decide) w_1158 rfl rfl (Nat.le_of_ble_eq_true rfl) (fun Γ => ?_)
  refine g_aload_n d_Mo_edges_0 rfl ?_
  refine g_iload_n d_Mo_edges_1 rfl ?_
  refine g_iconst (v := nI 0) d_Mo_edges_2 (by decide) ?_
  refine g_iconst (v := nI 1) d_Mo_edges_3 (by decide) ?_
  refine g_callS s_Mo_112 sv_Mo_in (g_of_val (k_Mo_in _ _ _)) (by omega) rfl (by omega) (by omega) rfl (Nat.le_of_ble_eq_true rfl) d_Mo_edges_4 ?_
  rintro _ _ _ ⟨rfl, rfl, rfl⟩
  first | refine g_ifB_ne (tgt := 14) d_Mo_edges_7 (by decide) (fun hb_7 => ?_) (fun hb_7 => ?_) | refine g_ifN_ne (tgt := 14) d_Mo_edges_7 (by decide) (by omega) (fun hb_7 => ?_) (fun hb_7 => ?_)
  · rw [hin] at hb_7; cases hb_7
  · refine g_iconst (v := nI 1) d_Mo_edges_10 (by decide) ?_
    refine g_goto (tgt := 15) d_Mo_edges_11 (by decide) ?_
    refine g_iconst (v := nI 0) d_Mo_edges_15 (by decide) ?_
    refine g_callV s_Mo_57 sv_Mo_refuse (by assumption) rfl (k_Mo_refuse hO true false) (by omega) rfl (by omega) (by omega) rfl (Nat.le_of_ble_eq_true rfl) d_Mo_edges_16 ?_
    rintro v' N' M1 ⟨rfl, rfl, e1, f1⟩
    first | refine g_ifB_eq (tgt := 24) d_Mo_edges_19 (by decide) (fun hb_19 => ?_) (fun hb_19 => ?_) | refine g_ifN_eq (tgt := 24) d_Mo_edges_19 (by decide) (by omega) (fun hb_19 => ?_) (fun hb_19 => ?_)
    · cases hb_19
    · refine g_iconst (v := nI 0) d_Mo_edges_22 (by decide) ?_
      exact g_ireturn rfl rfl (by omega) (by omega) d_Mo_edges_23 ⟨_, rfl, rfl, rfl, h.own e1 f1, f1⟩
end MFILL

