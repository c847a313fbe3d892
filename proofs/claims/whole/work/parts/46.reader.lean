/-! reading: rules and texts -/
def sTx (n : Nat) (ts : Nat → Nat) : Nat → Nat → Nat → (Nat → Rl) → Bool × Nat × (Nat → Rl)
  | 0, c, _, rs => (true, c, rs)
  | k + 1, c, a, rs => if n ≤ a then (true, c, rs) else
      if (sRu n ts a (rs (min c 7))).1 = true then sTx n ts k (c + 1) (sRu n ts a (rs (min c 7))).2.1 (va_up rs (min c 7) (sRu n ts a (rs (min c 7))).2.2)
      else (false, (sRu n ts a (rs (min c 7))).2.1, va_up rs (min c 7) (sRu n ts a (rs (min c 7))).2.2)
def sT (n : Nat) (ts : Nat → Nat) (rs : Nat → Rl) : Bool × Nat × (Nat → Rl) := sTx n ts 240 0 (bh n ts 0 1) rs
def rI (b : Bool) (k : Nat) : Int32 := if b = true then nI k else -1 - nI k
def o_rf (E : gE) (M : gM) (R : Nat) (rs : Nat → Rl) : Prop := (∃ fa, M (R + 2) = some (g_qa E 3 8 fa) ∧ ∀ j, j < 8 → fa j = some (R + 3 + 3 * j)) ∧ ∀ j, j < 8 → ∃ z, o_rule E M (R + 3 + 3 * j) z ∧ r_eq z (rs j)
theorem o_rf.kept {E : gE} {M M' : gM} {R : Nat} {rs : Nat → Rl} (h : o_rf E M R rs) (hk : ∀ x, R + 2 ≤ x → x ≤ R + 26 → M' x = M x) : o_rf E M' R rs := by
  obtain ⟨⟨fa, h1, h2⟩, h3⟩ := h
  refine ⟨⟨fa, (hk _ (by omega) (by omega)).trans h1, h2⟩, fun j hj => ?_⟩
  obtain ⟨z, h4, h5⟩ := h3 j hj
  exact ⟨z, h4.kept (fun x a b => hk x (by omega) (by omega)), h5⟩
/-- a contract out of its walk, for a class with rows of the model's own for other methods -/
theorem ctr_ofF {l : Launch} {E : gE} {y : MethodName} {cc : ByteArray} {nL : Nat} {ret : Option FieldType} {d : Nat} {as : List Value} (L : List (Option Value)) {N : Nat} {M : gM} {mc ms : Nat} {Q : Outcome → Nat → gM → Prop} (hy : plainFor y = true) (hw : Cond.code y cc nL ret ∈ g_WS) (hL : g_prs L = lv_args 0 as) (hok : g_ok L = true) (hlen : (lg_sl as).length ≤ nL)
    (body : ∀ Γ, G l E y cc nL ret [] d Q mc ms Γ 0 L [] N M 0 0) : Ctr l E y d as N M mc ms Q := by
  intro hfl
  refine MetFree.of_bodySF (code := cc) (maxLocals := nL) (ret := ret) hy ?_ ?_
  · intro args s m h hn
    obtain ⟨meth, c, h1, h2, h3, h4, h5, h6, -, -⟩ := Cond.code_spec hn (atoms_spec (ws := g_WS) h _ hw)
    exact ⟨meth, c, h1, h2, h3, h4, h5, h6⟩
  · intro p e s m args below meth c s₁ B hml hP _
    have hh0 : s₁.heap = s.heap := by rw [B.state]; rfl
    obtain ⟨rfl, hrep, hK⟩ := hP
    have hts := atoms_spec (ws := g_WS) B.pre
    have he := BodyLoose.noHandlers B (hts _ hw)
    have he2 : c.exceptionTable.toList = [] := by
      have h0 : c.exceptionTable.size = 0 := by simpa [Array.isEmpty] using he
      exact List.eq_nil_of_length_eq_zero (by simpa using h0)
    have hin := (name_of_methodNamed B.named B.method).1
    have hent : g_loc ((lg_sl as ++ List.replicate (nL - (lg_sl as).length) Slot.unset).toArray) nL L := ⟨by rw [hL]; exact lv_entry as hlen, g_ok_of hok⟩
    obtain ⟨t, a1, o, b1, b2, b3⟩ := body (p, l, e, (headSpec g_WS (g_rm d mc ms)).room, s, m, as.toArray, below, meth, c) ⟨B.exec, B.bytes, hml, findClass_of_methodNamed B.named, hts, hK, B.notSynchronized, B.returns, hin, rfl, rfl, he2, hfl, hrep.2.2.1⟩ s.heap [] _ hent hrep (fun q h => by cases h) s₁ hh0 (Stand.of_body B)
    refine ⟨t, o, ?_, b1, b2, b3⟩
    rw [lg_entry_eq]
    exact a1
theorem plain_min : plainFor y_Mat_min = true := by decide +kernel
section READER2
variable {l : Launch} {E : gE} {N : Nat} {M : gM} {R t n : Nat} {ts : Nat → Nat} {a told : Nat} {r : Nat} {z w : Rl} {rs : Nat → Rl}
theorem k_RR_readRule (h : o_rr E M R t n ts a told) (hr : o_rule E M r z) (hz : r_eq z w) (hd : R + 2 < r) : Ctr l E y_RR_readRule 8 [.ref R, .ref r] N M 0 0 (g_ret (fun v N' M' => v = some (.int (bI (sRu n ts a w).1)) ∧ N' = N ∧ (∃ told', o_rr E M' R t n ts (sRu n ts a w).2.1 told') ∧ (∃ z', o_rule E M' r z' ∧ r_eq z' (sRu n ts a w).2.2) ∧ rr_fr R r M M')) := by
  have h0 := h
  obtain ⟨h1, h2, h3, h4⟩ := h
  have h2a := h2.1
  refine ctr_of [some (.ref R), some (.ref r), none, none, none] (by decide) w_486 rfl rfl (Nat.le_of_ble_eq_true rfl) (fun Γ => ?_)
  refine g_aload_n d_RR_readRule_0 rfl ?_
  refine g_callV s_RR_48 sv_RR_verdictHere (by assumption) rfl (g_of_val (k_RR_verdictHere h0)) (by omega) rfl (by omega) (by omega) rfl (Nat.le_of_ble_eq_true rfl) d_RR_readRule_1 ?_
  rintro _ _ _ ⟨rfl, rfl, rfl⟩
  refine g_istore_n d_RR_readRule_4 (by decide) ?_
  refine g_iload_n d_RR_readRule_5 rfl ?_
  refine g_iconst (v := -1) d_RR_readRule_6 (by decide) ?_
  by_cases hv : vh n ts a < 3
  · have e0 : fI (vh n ts a) 3 = nI (vh n ts a) := by unfold fI; rw [if_pos hv]
    rw [e0]
    refine g_icmp_ne (tgt := 12) d_RR_readRule_7 (by decide) (fun hb => ?_) (fun hb => absurd (congrArg Int32.toInt hb) (by rw [nI_toInt (by omega)]; show ¬ ((vh n ts a : Nat) : Int) = -1; omega))
    refine g_aload_n d_RR_readRule_12 rfl ?_
    refine g_get f_RR_14 (by assumption) rfl d_RR_readRule_13 ?_
    refine g_callV s_RR_51 sv_Pi_step (by assumption) rfl (k_Pi_next h2 h3 ⟨by omega, by omega⟩) (by omega) rfl (by omega) (by omega) rfl (Nat.le_of_ble_eq_true rfl) d_RR_readRule_16 ?_
    rintro v' N' M1 ⟨rfl, rfl, hp, hf1⟩
    have H1 := h0.next hp hf1
    have hr1 := hr.kept (M' := M1) (fun x _ _ => hf1 x (by omega))
    have hr1a := hr1.1
    refine g_aload_n d_RR_readRule_19 rfl ?_
    refine g_iload_n d_RR_readRule_20 rfl ?_
    refine g_callV s_RR_54 sv_Ru_start (by assumption) rfl (k_Ru_start hr1 (vh n ts a)) (by omega) rfl (by omega) (by omega) rfl (Nat.le_of_ble_eq_true rfl) d_RR_readRule_21 ?_
    rintro v' N' M2 ⟨rfl, rfl, ⟨z2, hr2, hz2⟩, hf2⟩
    obtain ⟨g1, g2, g3, g4⟩ := H1
    have g1' := (hf2 R (by omega) (by omega) (by omega)).trans g1
    have g2' : o_pc M2 (R + 1) t n ts (nx n ts a) := ⟨(hf2 _ (by omega) (by omega) (by omega)).trans g2.1, g2.2⟩
    have g3' := g3.kept (M' := M2) (fun x _ _ => hf2 x (by omega) (by omega) (by omega))
    refine g_aload_n d_RR_readRule_24 rfl ?_
    refine g_iconst (v := nI 0) d_RR_readRule_25 (by decide) ?_
    refine g_put p_RR_58 (by assumption) (Nat.le_of_ble_eq_true rfl) rfl rfl d_RR_readRule_26 ?_
    refine g_nm (fun M3 e3 f3 => ?_)
    refine g_iconst (v := nI 0) d_RR_readRule_29 (by decide) ?_
    refine g_istore_n d_RR_readRule_30 (by decide) ?_
    refine g_for (P := fun i => ∀ (M4 : gM) (tl b : Nat) (z4 w4 : Rl) (x : Option Value), tl < 16 → o_rr E M4 R t n ts b tl → o_rule E M4 r z4 → r_eq z4 w4 → rr_fr R r M M4 → sRu n ts a w = sFs n ts (4 - i) tl b w4 → G _ _ _ _ _ _ _ _ _ _ _ _ 31 [some (.ref R), some (.ref r), some (.int (nI (vh n ts a))), some (.int (nI i)), x] [] _ M4 0 0) (e := 4) ?_ ?_ 0 (by omega) M3 0 (nx n ts a) z2 (vh n ts a, fun _ => 0, mst) none (by omega) ?_ ?_ hz2 ?_ ?_
    · intro M4 tl b z4 w4 x ht H hr4 hz4 hfr he
      have Ha := H.1
      refine g_iload_n d_RR_readRule_31 rfl ?_
      refine g_iconst (v := nI 4) d_RR_readRule_32 (by decide) ?_
      refine g_icmpN_ge (tgt := 78) d_RR_readRule_33 (by decide) (by omega) (by omega) (fun hb_33 => ?_) (fun hb_33 => ?_)
      · refine g_aload_n d_RR_readRule_78 rfl ?_
        refine g_bipush (v := nI 59) d_RR_readRule_79 (by decide) ?_
        refine g_callV s_RR_73 sv_RR_skipSign (by assumption) rfl (k_RR_skipSign H 59 (by omega)) (by omega) rfl (by omega) (by omega) rfl (Nat.le_of_ble_eq_true rfl) d_RR_readRule_81 ?_
        rintro v' N' M5 ⟨rfl, rfl, H5, hf5⟩
        have e1 : sRu n ts a w = (sg n ts b 59, (if sg n ts b 59 = true then nx n ts b else b), w4) := by
          rw [he]
          show (if sg n ts b 59 = true then (true, nx n ts b, w4) else (false, b, w4)) = _
          cases sg n ts b 59 <;> rfl
        rw [e1]
        exact g_ireturn rfl (bI_nar _) (by omega) (by omega) d_RR_readRule_84 ⟨_, rfl, rfl, rfl, ⟨_, H5⟩, ⟨z4, hr4.kept (fun x _ _ => hf5 x (by omega)), hz4⟩, fun x x1 x2 x3 => (hf5 x x2).trans (hfr x x1 x2 x3)⟩
      · omega
    · intro i hi ih M4 tl b z4 w4 x ht H hr4 hz4 hfr he
      have H0 := H
      obtain ⟨j1, j2, j3, j4⟩ := H0
      have j2a := j2.1
      have hr4a := hr4.1
      obtain ⟨k, hk⟩ : ∃ k, 4 - i = k + 1 := ⟨3 - i, by omega⟩
      rw [hk] at he
      refine g_iload_n d_RR_readRule_31 rfl ?_
      refine g_iconst (v := nI 4) d_RR_readRule_32 (by decide) ?_
      refine g_icmpN_ge (tgt := 78) d_RR_readRule_33 (by decide) (by omega) (by omega) (fun hb_33 => ?_) (fun hb_33 => ?_)
      · omega
      refine g_aload_n d_RR_readRule_36 rfl ?_
      refine g_get f_RR_14 (by assumption) rfl d_RR_readRule_37 ?_
      refine g_bipush (v := nI 59) d_RR_readRule_40 (by decide) ?_
      refine g_callV s_RR_62 sv_Pi_isSign (by assumption) rfl (g_of_val (k_Pi_isSign j2 j3 59 (by omega))) (by omega) rfl (by omega) (by omega) rfl (Nat.le_of_ble_eq_true rfl) d_RR_readRule_42 ?_
      rintro _ _ _ ⟨rfl, rfl, rfl⟩
      first | refine g_ifB_ne (tgt := 78) d_RR_readRule_45 (by decide) (fun hb_45 => ?_) (fun hb_45 => ?_) | refine g_ifN_ne (tgt := 78) d_RR_readRule_45 (by decide) (by omega) (fun hb_45 => ?_) (fun hb_45 => ?_)
      · refine g_aload_n d_RR_readRule_78 rfl ?_
        refine g_bipush (v := nI 59) d_RR_readRule_79 (by decide) ?_
        refine g_callV s_RR_73 sv_RR_skipSign (by assumption) rfl (k_RR_skipSign H 59 (by omega)) (by omega) rfl (by omega) (by omega) rfl (Nat.le_of_ble_eq_true rfl) d_RR_readRule_81 ?_
        rintro v' N' M5 ⟨rfl, rfl, H5, hf5⟩
        have e1 : sRu n ts a w = (sg n ts b 59, (if sg n ts b 59 = true then nx n ts b else b), w4) := by
          rw [he]
          unfold sFs
          rw [if_pos hb_45, hb_45]
          rfl
        rw [e1]
        exact g_ireturn rfl (bI_nar _) (by omega) (by omega) d_RR_readRule_84 ⟨_, rfl, rfl, rfl, ⟨_, H5⟩, ⟨z4, hr4.kept (fun x _ _ => hf5 x (by omega)), hz4⟩, fun x x1 x2 x3 => (hf5 x x2).trans (hfr x x1 x2 x3)⟩
      · have n45 : ¬ sg n ts b 59 = true := by rw [hb_45]; decide
        refine g_aload_n d_RR_readRule_48 rfl ?_
        refine g_callV s_RR_66 sv_RR_readName (by assumption) rfl (k_RR_readName H ht) (by omega) rfl (by omega) (by omega) rfl (Nat.le_of_ble_eq_true rfl) d_RR_readRule_49 ?_
        rintro v' N' M5 ⟨rfl, hf5, ⟨q1, q2, rfl, H5⟩ | ⟨q1, rfl, rfl⟩⟩
        · have hr5 := hr4.kept (M' := M5) (fun x _ _ => hf5 x (by omega) (by omega))
          have hr5a := hr5.1
          have H5a := H5.1
          refine g_istore d_RR_readRule_52 (by decide) ?_
          refine g_iload d_RR_readRule_54 rfl ?_
          refine g_iconst (v := -1) d_RR_readRule_56 (by decide) ?_
          refine g_icmp_eq (tgt := 70) d_RR_readRule_57 (by decide) (fun hb => absurd (congrArg Int32.toInt hb) (by rw [nI_toInt (by omega)]; show ¬ ((fh n ts b : Nat) : Int) = -1; omega)) (fun hb => ?_)
          refine g_aload_n d_RR_readRule_60 rfl ?_
          refine g_aload_n d_RR_readRule_61 rfl ?_
          refine g_iload d_RR_readRule_62 rfl ?_
          refine g_callV s_RR_69 sv_RR_readRange (by assumption) rfl (k_RR_readRange H5 hr5 hz4 hd (fh n ts b) q1) (by omega) rfl (by omega) (by omega) rfl (Nat.le_of_ble_eq_true rfl) d_RR_readRule_64 ?_
          rintro v' N' M6 ⟨rfl, rfl, H6, ⟨z6, hr6, hz6⟩, hf6⟩
          first | refine g_ifB_ne (tgt := 72) d_RR_readRule_67 (by decide) (fun hb_67 => ?_) (fun hb_67 => ?_) | refine g_ifN_ne (tgt := 72) d_RR_readRule_67 (by decide) (by omega) (fun hb_67 => ?_) (fun hb_67 => ?_)
          · refine g_iinc1 d_RR_readRule_72 rfl (by decide) ?_
            refine g_goto (tgt := 31) d_RR_readRule_75 (by decide) ?_
            refine ih M6 _ _ z6 _ _ (or16 tl ht _ q1) H6 hr6 hz6 (fun x x1 x2 x3 => (hf6 x x1 x2 x3).trans ((hf5 x x1 x2).trans (hfr x x1 x2 x3))) (he.trans ?_)
            rw [show 4 - (i + 1) = k by omega]
            conv => lhs; unfold sFs
            rw [if_neg n45, if_pos ⟨q1, q2⟩, if_pos hb_67]
          · have e1 : sRu n ts a w = sRg n ts (fh n ts b) (nx n ts b) w4 := by
              rw [he]
              unfold sFs
              rw [if_neg n45, if_pos ⟨q1, q2⟩, if_neg (by rw [hb_67]; decide)]
            rw [e1]
            refine g_iconst (v := nI 0) d_RR_readRule_70 (by decide) ?_
            refine g_Fa (b := (sRg n ts (fh n ts b) (nx n ts b) w4).1) hb_67 ?_
            exact g_ireturn rfl (bI_nar _) (by omega) (by omega) d_RR_readRule_71 ⟨_, rfl, rfl, rfl, ⟨_, H6⟩, ⟨z6, hr6, hz6⟩, fun x x1 x2 x3 => (hf6 x x1 x2 x3).trans ((hf5 x x1 x2).trans (hfr x x1 x2 x3))⟩
        · have e1 : sRu n ts a w = (false, b, w4) := by
            rw [he]
            unfold sFs
            rw [if_neg n45, if_neg q1]
          rw [e1]
          refine g_istore d_RR_readRule_52 (by decide) ?_
          refine g_iload d_RR_readRule_54 rfl ?_
          refine g_iconst (v := -1) d_RR_readRule_56 (by decide) ?_
          refine g_icmp_eq (tgt := 70) d_RR_readRule_57 (by decide) (fun hb => ?_) (fun hb => absurd rfl hb)
          refine g_iconst (v := nI 0) d_RR_readRule_70 (by decide) ?_
          exact g_ireturn rfl rfl (by omega) (by omega) d_RR_readRule_71 ⟨_, rfl, rfl, rfl, ⟨_, H⟩, ⟨z4, hr4, hz4⟩, hfr⟩
    · exact ⟨e3, ⟨(f3 _ (by omega)).trans g2'.1, g2'.2⟩, g3'.kept (fun x _ _ => f3 x (by omega)), g4⟩
    · exact hr2.kept (fun x _ _ => f3 x (by omega))
    · exact fun x x1 x2 x3 => (f3 x x1).trans ((hf2 x (by omega) (by omega) (by omega)).trans (hf1 x x2))
    · unfold sRu
      rw [if_pos hv]
  · have e0 : fI (vh n ts a) 3 = -1 := by unfold fI; rw [if_neg hv]
    rw [e0]
    have e1 : sRu n ts a w = (false, a, w) := by
      unfold sRu
      rw [if_neg hv]
    rw [e1]
    refine g_icmp_ne (tgt := 12) d_RR_readRule_7 (by decide) (fun hb => absurd rfl hb) (fun hb => ?_)
    refine g_iconst (v := nI 0) d_RR_readRule_10 (by decide) ?_
    exact g_ireturn rfl rfl (by omega) (by omega) d_RR_readRule_11 ⟨_, rfl, rfl, rfl, ⟨_, h0⟩, ⟨z, hr, hz⟩, fun _ _ _ _ => rfl⟩
theorem k_Mat_min (a b : Nat) (ha : a < 2 ^ 31) (hb : b < 2 ^ 31) : Ctr l E y_Mat_min 0 [.int (nI a), .int (nI b)] N M 0 0 (g_val (some (.int (nI (min a b)))) N M) := by
  refine ctr_ofF [some (.int (nI a)), some (.int (nI b))] plain_min w_482 rfl rfl (Nat.le_of_ble_eq_true rfl) (fun Γ => ?_)
  refine g_iload_n d_Mat_min_0 rfl ?_
  refine g_iload_n d_Mat_min_1 rfl ?_
  refine g_icmpN_gt (tgt := 9) d_Mat_min_2 (by decide) (by omega) (by omega) (fun hb_2 => ?_) (fun hb_2 => ?_)
  · refine g_iload_n d_Mat_min_9 rfl ?_
    refine g_eqi (z := nI (min a b)) (by rw [show min a b = b by omega]) ?_
    exact g_ireturn rfl (by first | rfl | exact bI_nar _) (by omega) (by omega) d_Mat_min_10 ⟨rfl, rfl, rfl⟩
  · refine g_iload_n d_Mat_min_5 rfl ?_
    refine g_goto (tgt := 10) d_Mat_min_6 (by decide) ?_
    refine g_eqi (z := nI (min a b)) (by rw [show min a b = a by omega]) ?_
    exact g_ireturn rfl (by first | rfl | exact bI_nar _) (by omega) (by omega) d_Mat_min_10 ⟨rfl, rfl, rfl⟩
end READER2

