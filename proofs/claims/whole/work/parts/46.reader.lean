/-! reading: rules and texts -/
def sTx (n : Nat) (ts : Nat → Nat) : Nat → Nat → Nat → (Nat → Rl) → Bool × Nat × (Nat → Rl)
  | 0, c, _, rs => (true, c, rs)
  | k + 1, c, a, rs => if n ≤ a then (true, c, rs) else
      if (sRu n ts a (rs (min c 7))).1 = true then sTx n ts k (c + 1) (sRu n ts a (rs (min c 7))).2.1 (va_up rs (min c 7) (sRu n ts a (rs (min c 7))).2.2)
      else (false, (sRu n ts a (rs (min c 7))).2.1, va_up rs (min c 7) (sRu n ts a (rs (min c 7))).2.2)
def sT (n : Nat) (ts : Nat → Nat) (rs : Nat → Rl) : Bool × Nat × (Nat → Rl) := sTx n ts 240 0 (bh n ts 0 1) rs
def rI (b : Bool) (k : Nat) : Int32 := if b = true then nI k else -1 - nI k
def o_rf (E : gE) (M : gM) (R : Nat) (rs : Nat → Rl) : Prop := (∃ fa, M (R + 2) = some (g_qa E 3 8 fa) ∧ ∀ j, j < 8 → fa j = some (R + 3 + 3 * j)) ∧ ∀ j, j < 8 → ∃ z, o_rule E M (R + 3 + 3 * j) z ∧ r_eq z (rs j)
theorem o_rf.kept {E : gE} {M M' : gM} {R : Nat} {rs : Nat → Rl} (h : o_rf E M R rs) (hk : ∀ x, R + 2 ≤ x → x ≤ R + 26 → M' x = M x) : o_rf E M' R rs := by
  obtain ⟨⟨fa, h1, h2⟩, h3⟩ := h
  refine ⟨⟨fa, (hk _ (by omega) (by omega)).trans h1, h2⟩, fun j hj => ?_⟩
  obtain ⟨z, h4, h5⟩ := h3 j hj
  exact ⟨z, h4.kept (fun x a b => hk x (by omega) (by omega)), h5⟩
/-- a contract out of its walk, for a class with rows of the model's own for other methods -/
theorem ctr_ofF {l : Launch} {E : gE} {y : MethodName} {cc : ByteArray} {nL : Nat} {ret : Option FieldType} {d : Nat} {as : List Value} (L : List (Option Value)) {N : Nat} {M : gM} {mc ms : Nat} {Q : Outcome → Nat → gM → Prop} (hy : plainFor y = true) (hw : Cond.code y cc nL ret ∈ g_WS) (hL : g_prs L = lv_args 0 as) (hok : g_ok L = true) (hlen : (lg_sl as).length ≤ nL)
    (body : ∀ Γ, G l E y cc nL ret [] d Q mc ms Γ 0 L [] N M 0 0) : Ctr l E y d as N M mc ms Q := by
  intro hfl
  refine MetFree.of_bodySF (code := cc) (maxLocals := nL) (ret := ret) hy ?_ ?_
  · intro args s m h hn
    obtain ⟨meth, c, h1, h2, h3, h4, h5, h6, -, -⟩ := Cond.code_spec hn (atoms_spec (ws := g_WS) h _ hw)
    exact ⟨meth, c, h1, h2, h3, h4, h5, h6⟩
  · intro p e s m args below meth c s₁ B hml hP _
    have hh0 : s₁.heap = s.heap := by rw [B.state]; rfl
    obtain ⟨rfl, hrep, hK⟩ := hP
    have hts := atoms_spec (ws := g_WS) B.pre
    have he := BodyLoose.noHandlers B (hts _ hw)
    have he2 : c.exceptionTable.toList = [] := by
      have h0 : c.exceptionTable.size = 0 := by simpa [Array.isEmpty] using he
      exact List.eq_nil_of_length_eq_zero (by simpa using h0)
    have hin := (name_of_methodNamed B.named B.method).1
    have hent : g_loc ((lg_sl as ++ List.replicate (nL - (lg_sl as).length) Slot.unset).toArray) nL L := ⟨by rw [hL]; exact lv_entry as hlen, g_ok_of hok⟩
    obtain ⟨t, a1, o, b1, b2, b3⟩ := body (p, l, e, (headSpec g_WS (g_rm d mc ms)).room, s, m, as.toArray, below, meth, c) ⟨B.exec, B.bytes, hml, findClass_of_methodNamed B.named, hts, hK, B.notSynchronized, B.returns, hin, rfl, rfl, he2, hfl, hrep.2.2.1⟩ s.heap [] _ hent hrep (fun q h => by cases h) s₁ hh0 (Stand.of_body B)
    refine ⟨t, o, ?_, b1, b2, b3⟩
    rw [lg_entry_eq]
    exact a1
theorem plain_min : plainFor y_Mat_min = true := by decide +kernel
section READER2
variable {l : Launch} {E : gE} {N : Nat} {M : gM} {R t n : Nat} {ts : Nat → Nat} {a told : Nat} {r : Nat} {z w : Rl} {rs : Nat → Rl}
theorem k_RR_readRule (h : o_rr E M R t n ts a told) (hr : o_rule E M r z) (hz : r_eq z w) (hd : R + 2 < r) : Ctr l E y_RR_readRule 8 [.ref R, .ref r] N M 0 0 (g_ret (fun v N' M' => v = some (.int (bI (sRu n ts a w).1)) ∧ N' = N ∧ (∃ told', o_rr E M' R t n ts (sRu n ts a w).2.1 told') ∧ (∃ z', o_rule E M' r z' ∧ r_eq z' (sRu n ts a w).2.2) ∧ rr_fr R r M M')) := by
  have h0 := h
  obtain ⟨h1, h2, h3, h4⟩ := h
  have h2a := h2.1
  refine ctr_of [some (.ref R), some (.ref r), none, none, none] (by decide) w_486 rfl rfl (Nat.le_of_ble_eq_true rfl) (fun Γ => ?_)
  refine g_aload_n d_RR_readRule_0 rfl ?_
  refine g_callV s_RR_48 sv_RR_verdictHere (by assumption) rfl (g_of_val (k_RR_verdictHere h0)) (by omega) rfl (by omega) (by omega) rfl (Nat.le_of_ble_eq_true rfl) d_RR_readRule_1 ?_
  rintro _ _ _ ⟨rfl, rfl, rfl⟩
  refine g_istore_n d_RR_readRule_4 (by decide) ?_
  refine g_iload_n d_RR_readRule_5 rfl ?_
  refine g_iconst (v := -1) d_RR_readRule_6 (by decide) ?_
  by_cases hv : vh n ts a < 3
  · have e0 : fI (vh n ts a) 3 = nI (vh n ts a) := by unfold fI; rw [if_pos hv]
    rw [e0]
    refine g_icmp_ne (tgt := 12) d_RR_readRule_7 (by decide) (fun hb => ?_) (fun hb => absurd (congrArg Int32.toInt hb) (by rw [nI_toInt (by omega)]; show ¬ ((vh n ts a : Nat) : Int) = -1; omega))
    refine g_aload_n d_RR_readRule_12 rfl ?_
    refine g_get f_RR_14 (by assumption) rfl d_RR_readRule_13 ?_
    refine g_callV s_RR_51 sv_Pi_step (by assumption) rfl (k_Pi_next h2 h3 ⟨by omega, by omega⟩) (by omega) rfl (by omega) (by omega) rfl (Nat.le_of_ble_eq_true rfl) d_RR_readRule_16 ?_
    rintro v' N' M1 ⟨rfl, rfl, hp, hf1⟩
    have H1 := h0.next hp hf1
    have hr1 := hr.kept (M' := M1) (fun x _ _ => hf1 x (by omega))
    have hr1a := hr1.1
    refine g_aload_n d_RR_readRule_19 rfl ?_
    refine g_iload_n d_RR_readRule_20 rfl ?_
    refine g_callV s_RR_54 sv_Ru_start (by assumption) rfl (k_Ru_start hr1 (vh n ts a)) (by omega) rfl (by omega) (by omega) rfl (Nat.le_of_ble_eq_true rfl) d_RR_readRule_21 ?_
    rintro v' N' M2 ⟨rfl, rfl, ⟨z2, hr2, hz2⟩, hf2⟩
    obtain ⟨g1, g2, g3, g4⟩ := H1
    have g1' := (hf2 R (by omega) (by omega) (by omega)).trans g1
    have g2' : o_pc M2 (R + 1) t n ts (nx n ts a) := ⟨(hf2 _ (by omega) (by omega) (by omega)).trans g2.1, g2.2⟩
    have g3' := g3.kept (M' := M2) (fun x _ _ => hf2 x (by omega) (by omega) (by omega))
    refine g_aload_n d_RR_readRule_24 rfl ?_
    refine g_iconst (v := nI 0) d_RR_readRule_25 (by decide) ?_
    refine g_put p_RR_58 (by assumption) (Nat.le_of_ble_eq_true rfl) rfl rfl d_RR_readRule_26 ?_
    refine g_nm (fun M3 e3 f3 => ?_)
    refine g_iconst (v := nI 0) d_RR_readRule_29 (by decide) ?_
    refine g_istore_n d_RR_readRule_30 (by decide) ?_
    refine g_for (P := fun i => ∀ (M4 : gM) (tl b : Nat) (z4 w4 : Rl) (x : Option Value), tl < 16 → o_rr E M4 R t n ts b tl → o_rule E M4 r z4 → r_eq z4 w4 → rr_fr R r M M4 → sRu n ts a w = sFs n ts (4 - i) tl b w4 → G _ _ _ _ _ _ _ _ _ _ _ _ 31 [some (.ref R), some (.ref r), some (.int (nI (vh n ts a))), some (.int (nI i)), x] [] _ M4 0 0) (e := 4) ?_ ?_ 0 (by omega) M3 0 (nx n ts a) z2 (vh n ts a, fun _ => 0, mst) none (by omega) ?_ ?_ hz2 ?_ ?_
    · intro M4 tl b z4 w4 x ht H hr4 hz4 hfr he
      have Ha := H.1
      refine g_iload_n d_RR_readRule_31 rfl ?_
      refine g_iconst (v := nI 4) d_RR_readRule_32 (by decide) ?_
      refine g_icmpN_ge (tgt := 78) d_RR_readRule_33 (by decide) (by omega) (by omega) (fun hb_33 => ?_) (fun hb_33 => ?_)
      · refine g_aload_n d_RR_readRule_78 rfl ?_
        refine g_bipush (v := nI 59) d_RR_readRule_79 (by decide) ?_
        refine g_callV s_RR_73 sv_RR_skipSign (by assumption) rfl (k_RR_skipSign H 59 (by omega)) (by omega) rfl (by omega) (by omega) rfl (Nat.le_of_ble_eq_true rfl) d_RR_readRule_81 ?_
        rintro v' N' M5 ⟨rfl, rfl, H5, hf5⟩
        have e1 : sRu n ts a w = (sg n ts b 59, (if sg n ts b 59 = true then nx n ts b else b), w4) := by
          rw [he]
          show (if sg n ts b 59 = true then (true, nx n ts b, w4) else (false, b, w4)) = _
          cases sg n ts b 59 <;> rfl
        rw [e1]
        exact g_ireturn rfl (bI_nar _) (by omega) (by omega) d_RR_readRule_84 ⟨_, rfl, rfl, rfl, ⟨_, H5⟩, ⟨z4, hr4.kept (fun x _ _ => hf5 x (by omega)), hz4⟩, fun x x1 x2 x3 => (hf5 x x2).trans (hfr x x1 x2 x3)⟩
      · omega
    · intro i hi ih M4 tl b z4 w4 x ht H hr4 hz4 hfr he
      have H0 := H
      obtain ⟨j1, j2, j3, j4⟩ := H0
      have j2a := j2.1
      have hr4a := hr4.1
      obtain ⟨k, hk⟩ : ∃ k, 4 - i = k + 1 := ⟨3 - i, by omega⟩
      rw [hk] at he
      refine g_iload_n d_RR_readRule_31 rfl ?_
      refine g_iconst (v := nI 4) d_RR_readRule_32 (by decide) ?_
      refine g_icmpN_ge (tgt := 78) d_RR_readRule_33 (by decide) (by omega) (by omega) (fun hb_33 => ?_) (fun hb_33 => ?_)
      · omega
      refine g_aload_n d_RR_readRule_36 rfl ?_
      refine g_get f_RR_14 (by assumption) rfl d_RR_readRule_37 ?_
      refine g_bipush (v := nI 59) d_RR_readRule_40 (by decide) ?_
      refine g_callV s_RR_62 sv_Pi_isSign (by assumption) rfl (g_of_val (k_Pi_isSign j2 j3 59 (by omega))) (by omega) rfl (by omega) (by omega) rfl (Nat.le_of_ble_eq_true rfl) d_RR_readRule_42 ?_
      rintro _ _ _ ⟨rfl, rfl, rfl⟩
      first | refine g_ifB_ne (tgt := 78) d_RR_readRule_45 (by decide) (fun hb_45 => ?_) (fun hb_45 => ?_) | refine g_ifN_ne (tgt := 78) d_RR_readRule_45 (by decide) (by omega) (fun hb_45 => ?_) (fun hb_45 => ?_)
      · refine g_aload_n d_RR_readRule_78 rfl ?_
        refine g_bipush (v := nI 59) d_RR_readRule_79 (by decide) ?_
        refine g_callV s_RR_73 sv_RR_skipSign (by assumption) rfl (k_RR_skipSign H 59 (by omega)) (by omega) rfl (by omega) (by omega) rfl (Nat.le_of_ble_eq_true rfl) d_RR_readRule_81 ?_
        rintro v' N' M5 ⟨rfl, rfl, H5, hf5⟩
        have e1 : sRu n ts a w = (sg n ts b 59, (if sg n ts b 59 = true then nx n ts b else b), w4) := by
          rw [he]
          unfold sFs
          rw [if_pos hb_45, hb_45]
          rfl
        rw [e1]
        exact g_ireturn rfl (bI_nar _) (by omega) (by omega) d_RR_readRule_84 ⟨_, rfl, rfl, rfl, ⟨_, H5⟩, ⟨z4, hr4.kept (fun x _ _ => hf5 x (by omega)), hz4⟩, fun x x1 x2 x3 => (hf5 x x2).trans (hfr x x1 x2 x3)⟩
      · have n45 : ¬ sg n ts b 59 = true := by rw [hb_45]; decide
        refine g_aload_n d_RR_readRule_48 rfl ?_
        refine g_callV s_RR_66 sv_RR_readName (by assumption) rfl (k_RR_readName H ht) (by omega) rfl (by omega) (by omega) rfl (Nat.le_of_ble_eq_true rfl) d_RR_readRule_49 ?_
        rintro v' N' M5 ⟨rfl, hf5, ⟨q1, q2, rfl, H5⟩ | ⟨q1, rfl, rfl⟩⟩
        · have hr5 := hr4.kept (M' := M5) (fun x _ _ => hf5 x (by omega) (by omega))
          have hr5a := hr5.1
          have H5a := H5.1
          refine g_istore d_RR_readRule_52 (by decide) ?_
          refine g_iload d_RR_readRule_54 rfl ?_
          refine g_iconst (v := -1) d_RR_readRule_56 (by decide) ?_
          refine g_icmp_eq (tgt := 70) d_RR_readRule_57 (by decide) (fun hb => absurd (congrArg Int32.toInt hb) (by rw [nI_toInt (by omega)]; show ¬ ((fh n ts b : Nat) : Int) = -1; omega)) (fun hb => ?_)
          refine g_aload_n d_RR_readRule_60 rfl ?_
          refine g_aload_n d_RR_readRule_61 rfl ?_
          refine g_iload d_RR_readRule_62 rfl ?_
          refine g_callV s_RR_69 sv_RR_readRange (by assumption) rfl (k_RR_readRange H5 hr5 hz4 hd (fh n ts b) q1) (by omega) rfl (by omega) (by omega) rfl (Nat.le_of_ble_eq_true rfl) d_RR_readRule_64 ?_
          rintro v' N' M6 ⟨rfl, rfl, H6, ⟨z6, hr6, hz6⟩, hf6⟩
          first | refine g_ifB_ne (tgt := 72) d_RR_readRule_67 (by decide) (fun hb_67 => ?_) (fun hb_67 => ?_) | refine g_ifN_ne (tgt := 72) d_RR_readRule_67 (by decide) (by omega) (fun hb_67 => ?_) (fun hb_67 => ?_)
          · refine g_iinc1 d_RR_readRule_72 rfl (by decide) ?_
            refine g_goto (tgt := 31) d_RR_readRule_75 (by decide) ?_
            refine ih M6 _ _ z6 _ _ (or16 tl ht _ q1) H6 hr6 hz6 (fun x x1 x2 x3 => (hf6 x x1 x2 x3).trans ((hf5 x x1 x2).trans (hfr x x1 x2 x3))) (he.trans ?_)
            rw [show 4 - (i + 1) = k by omega]
            conv => lhs; unfold sFs
            rw [if_neg n45, if_pos ⟨q1, q2⟩, if_pos hb_67]
          · have e1 : sRu n ts a w = sRg n ts (fh n ts b) (nx n ts b) w4 := by
              rw [he]
              unfold sFs
              rw [if_neg n45, if_pos ⟨q1, q2⟩, if_neg (by rw [hb_67]; decide)]
            rw [e1]
            refine g_iconst (v := nI 0) d_RR_readRule_70 (by decide) ?_
            refine g_Fa (b := (sRg n ts (fh n ts b) (nx n ts b) w4).1) hb_67 ?_
            exact g_ireturn rfl (bI_nar _) (by omega) (by omega) d_RR_readRule_71 ⟨_, rfl, rfl, rfl, ⟨_, H6⟩, ⟨z6, hr6, hz6⟩, fun x x1 x2 x3 => (hf6 x x1 x2 x3).trans ((hf5 x x1 x2).trans (hfr x x1 x2 x3))⟩
        · have e1 : sRu n ts a w = (false, b, w4) := by
            rw [he]
            unfold sFs
            rw [if_neg n45, if_neg q1]
          rw [e1]
          refine g_istore d_RR_readRule_52 (by decide) ?_
          refine g_iload d_RR_readRule_54 rfl ?_
          refine g_iconst (v := -1) d_RR_readRule_56 (by decide) ?_
          refine g_icmp_eq (tgt := 70) d_RR_readRule_57 (by decide) (fun hb => ?_) (fun hb => absurd rfl hb)
          refine g_iconst (v := nI 0) d_RR_readRule_70 (by decide) ?_
          exact g_ireturn rfl rfl (by omega) (by omega) d_RR_readRule_71 ⟨_, rfl, rfl, rfl, ⟨_, H⟩, ⟨z4, hr4, hz4⟩, hfr⟩
    · exact ⟨e3, ⟨(f3 _ (by omega)).trans g2'.1, g2'.2⟩, g3'.kept (fun x _ _ => f3 x (by omega)), g4⟩
    · exact hr2.kept (fun x _ _ => f3 x (by omega))
    · exact fun x x1 x2 x3 => (f3 x x1).trans ((hf2 x (by omega) (by omega) (by omega)).trans (hf1 x x2))
    · unfold sRu
      rw [if_pos hv]
  · have e0 : fI (vh n ts a) 3 = -1 := by unfold fI; rw [if_neg hv]
    rw [e0]
    have e1 : sRu n ts a w = (false, a, w) := by
      unfold sRu
      rw [if_neg hv]
    rw [e1]
    refine g_icmp_ne (tgt := 12) d_RR_readRule_7 (by decide) (fun hb => absurd rfl hb) (fun hb => ?_)
    refine g_iconst (v := nI 0) d_RR_readRule_10 (by decide) ?_
    exact g_ireturn rfl rfl (by omega) (by omega) d_RR_readRule_11 ⟨_, rfl, rfl, rfl, ⟨_, h0⟩, ⟨z, hr, hz⟩, fun _ _ _ _ => rfl⟩
theorem k_Mat_min (a b : Nat) (ha : a < 2 ^ 31) (hb : b < 2 ^ 31) : Ctr l E y_Mat_min 0 [.int (nI a), .int (nI b)] N M 0 0 (g_val (some (.int (nI (min a b)))) N M) := by
  refine ctr_ofF [some (.int (nI a)), some (.int (nI b))] plain_min w_482 rfl rfl (Nat.le_of_ble_eq_true rfl) (fun Γ => ?_)
  refine g_iload_n d_Mat_min_0 rfl ?_
  refine g_iload_n d_Mat_min_1 rfl ?_
  refine g_icmpN_gt (tgt := 9) d_Mat_min_2 (by decide) (by omega) (by omega) (fun hb_2 => ?_) (fun hb_2 => ?_)
  · refine g_iload_n d_Mat_min_9 rfl ?_
    refine g_eqi (z := nI (min a b)) (by rw [show min a b = b by omega]) ?_
    exact g_ireturn rfl (by first | rfl | exact bI_nar _) (by omega) (by omega) d_Mat_min_10 ⟨rfl, rfl, rfl⟩
  · refine g_iload_n d_Mat_min_5 rfl ?_
    refine g_goto (tgt := 10) d_Mat_min_6 (by decide) ?_
    refine g_eqi (z := nI (min a b)) (by rw [show min a b = a by omega]) ?_
    exact g_ireturn rfl (by first | rfl | exact bI_nar _) (by omega) (by omega) d_Mat_min_10 ⟨rfl, rfl, rfl⟩
theorem k_RR_found {j : Nat} (h : M R = some (.inr (3, [.ref (R + 1), .ref (R + 2), .int (nI told)]))) (hf : o_rf E M R rs) (hj : j < 8) : Ctr l E y_RR_found 0 [.ref R, .int (nI j)] N M 0 0 (g_val (some (.ref (R + 3 + 3 * j))) N M) := by
  obtain ⟨⟨fa, h6, h7⟩, h8⟩ := hf
  refine ctr_of [some (.ref R), some (.int (nI j))] (by decide) w_626 rfl rfl (Nat.le_of_ble_eq_true rfl) (fun Γ => ?_)
  refine g_aload_n d_RR_found_0 rfl ?_
  refine g_get f_RR_22 (by assumption) rfl d_RR_found_1 ?_
  refine g_iload_n d_RR_found_4 rfl ?_
  refine g_aald j (by assumption) rfl rfl rfl hj (by decide) (h7 j hj) d_RR_found_5 ?_
  exact g_areturn rfl (Or.inl ⟨_, rfl⟩) (by omega) (by omega) d_RR_found_6 ⟨rfl, rfl, rfl⟩
theorem rI_neg {b : Bool} (h : b = false) (k : Nat) : -1 - nI k = rI b k := by
  unfold rI
  rw [h, if_neg (by decide)]
theorem k_RR_readText {x1 x2 x3 : Int32} (h1 : M R = some (.inr (3, [.ref (R + 1), .ref (R + 2), .int (nI told)]))) (h2 : M (R + 1) = some (.inr (2, [.ref t, .int x1, .int x2, .int x3]))) (h3 : o_text E M t n ts) (h4 : t + 1 < R) (h5 : o_rf E M R rs) :
    Ctr l E y_RR_readText 9 [.ref R] N M 0 0 (g_ret (fun v N' M' => v = some (.int (rI (sT n ts rs).1 (sT n ts rs).2.1)) ∧ N' = N ∧ (∃ told', M' R = some (.inr (3, [.ref (R + 1), .ref (R + 2), .int (nI told')]))) ∧ (∃ y1 y2 y3, M' (R + 1) = some (.inr (2, [.ref t, .int y1, .int y2, .int y3]))) ∧ o_rf E M' R (sT n ts rs).2.2 ∧ (sT n ts rs).2.1 ≤ 240 ∧ ∀ x, (x < R ∨ R + 26 < x) → M' x = M x)) := by
  have hn240 := h3.2.1
  refine ctr_of [some (.ref R), none] (by decide) w_458 rfl rfl (Nat.le_of_ble_eq_true rfl) (fun Γ => ?_)
  refine g_aload_n d_RR_readText_0 rfl ?_
  refine g_get f_RR_14 (by assumption) rfl d_RR_readText_1 ?_
  refine g_callV s_RR_27 sv_Pi_restart (by assumption) rfl (k_Pi_restart h2 h3 ⟨by omega, by omega⟩) (by omega) rfl (by omega) (by omega) rfl (Nat.le_of_ble_eq_true rfl) d_RR_readText_4 ?_
  rintro v' N' M1 ⟨rfl, rfl, hp, hf1⟩
  refine g_iconst (v := nI 0) d_RR_readText_7 (by decide) ?_
  refine g_istore_n d_RR_readText_8 (by decide) ?_
  refine g_for (P := fun i => ∀ (M4 : gM) (tl b : Nat) (rs4 : Nat → Rl), o_rr E M4 R t n ts b tl → o_rf E M4 R rs4 → (∀ x, (x < R ∨ R + 26 < x) → M4 x = M x) → sT n ts rs = sTx n ts (240 - i) i b rs4 → G _ _ _ _ _ _ _ _ _ _ _ _ 9 [some (.ref R), some (.int (nI i))] [] _ M4 0 0) (e := 240) ?_ ?_ 0 (by omega) M1 told (bh n ts 0 1) rs ⟨(hf1 _ (by omega)).trans h1, hp, h3.kept (fun x _ _ => hf1 x (by omega)), h4⟩ (h5.kept (fun x _ _ => hf1 x (by omega))) (fun x hx => hf1 x (by omega)) rfl
  · intro M4 tl b rs4 H hF hfr he
    have e1 : sT n ts rs = (true, 240, rs4) := he
    rw [e1]
    refine g_iload_n d_RR_readText_9 rfl ?_
    refine g_sipush (v := nI 240) d_RR_readText_10 (by decide) ?_
    refine g_icmpN_ge (tgt := 60) d_RR_readText_13 (by decide) (by omega) (by omega) (fun hb_13 => ?_) (fun hb_13 => ?_)
    · refine g_iload_n d_RR_readText_60 rfl ?_
      exact g_ireturn rfl rfl (by omega) (by omega) d_RR_readText_61 ⟨_, rfl, rfl, rfl, ⟨_, H.1⟩, ⟨_, _, _, H.2.1.1⟩, hF, by omega, hfr⟩
    · omega
  · intro i hi ih M4 tl b rs4 H hF hfr he
    have H0 := H
    obtain ⟨j1, j2, j3, j4⟩ := H0
    have j2a := j2.1
    obtain ⟨k, hk⟩ : ∃ k, 240 - i = k + 1 := ⟨239 - i, by omega⟩
    rw [hk] at he
    refine g_iload_n d_RR_readText_9 rfl ?_
    refine g_sipush (v := nI 240) d_RR_readText_10 (by decide) ?_
    refine g_icmpN_ge (tgt := 60) d_RR_readText_13 (by decide) (by omega) (by omega) (fun hb_13 => ?_) (fun hb_13 => ?_)
    · omega
    refine g_aload_n d_RR_readText_16 rfl ?_
    refine g_get f_RR_14 (by assumption) rfl d_RR_readText_17 ?_
    refine g_callV s_RR_30 sv_Pi_isEnd (by assumption) rfl (g_of_val (k_Pi_isEnd j2)) (by omega) rfl (by omega) (by omega) rfl (Nat.le_of_ble_eq_true rfl) d_RR_readText_20 ?_
    rintro _ _ _ ⟨rfl, rfl, rfl⟩
    first | refine g_ifB_ne (tgt := 60) d_RR_readText_23 (by decide) (fun hb_23 => ?_) (fun hb_23 => ?_) | refine g_ifN_ne (tgt := 60) d_RR_readText_23 (by decide) (by omega) (fun hb_23 => ?_) (fun hb_23 => ?_)
    · have e1 : sT n ts rs = (true, i, rs4) := by
        rw [he]
        unfold sTx
        rw [if_pos (of_decide_eq_true hb_23)]
      rw [e1]
      refine g_iload_n d_RR_readText_60 rfl ?_
      exact g_ireturn rfl rfl (by omega) (by omega) d_RR_readText_61 ⟨_, rfl, rfl, rfl, ⟨_, H.1⟩, ⟨_, _, _, H.2.1.1⟩, hF, by show i ≤ 240; omega, hfr⟩
    · have n23 := of_decide_eq_false hb_23
      have hF0 := hF
      obtain ⟨⟨fa, h6, h7⟩, h8⟩ := hF0
      have hm : min i 7 < 8 := by omega
      obtain ⟨z, hr, hz⟩ := h8 _ hm
      have hra := hr.1
      refine g_aload_n d_RR_readText_26 rfl ?_
      refine g_aload_n d_RR_readText_27 rfl ?_
      refine g_get f_RR_22 (by assumption) rfl d_RR_readText_28 ?_
      refine g_iload_n d_RR_readText_31 rfl ?_
      refine g_bipush (v := nI 7) d_RR_readText_32 (by decide) ?_
      refine g_callS s_RR_34 sv_Mat_min (g_of_val (k_Mat_min i 7 (by omega) (by omega))) (by omega) rfl (by omega) (by omega) rfl (Nat.le_of_ble_eq_true rfl) d_RR_readText_34 ?_
      rintro _ _ _ ⟨rfl, rfl, rfl⟩
      refine g_aald (min i 7) (by assumption) rfl rfl rfl hm (by decide) (h7 _ hm) d_RR_readText_37 ?_
      refine g_callV s_RR_40 sv_RR_readRule (by assumption) rfl (k_RR_readRule H hr hz (by omega)) (by omega) rfl (by omega) (by omega) rfl (Nat.le_of_ble_eq_true rfl) d_RR_readText_38 ?_
      rintro v' N' M5 ⟨rfl, rfl, ⟨t5, H5⟩, ⟨z5, hr5, hz5⟩, hf5⟩
      have hfr5 : ∀ x, (x < R ∨ R + 26 < x) → M5 x = M x := fun x hx => (hf5 x (by omega) (by omega) (by omega)).trans (hfr x hx)
      have hF5 : o_rf E M5 R (va_up rs4 (min i 7) (sRu n ts b (rs4 (min i 7))).2.2) := by
        refine ⟨⟨fa, (hf5 _ (by omega) (by omega) (by omega)).trans h6, h7⟩, fun j hj => ?_⟩
        by_cases e : j = min i 7
        · subst e
          exact ⟨z5, hr5, by rw [va_up_self]; exact hz5⟩
        · obtain ⟨z7, hr7, hz7⟩ := h8 j hj
          exact ⟨z7, hr7.kept (fun x _ _ => hf5 x (by omega) (by omega) (by omega)), by rw [va_up_ne _ _ e]; exact hz7⟩
      have H5a := H5.1
      have H5b := H5.2.1.1
      first | refine g_ifB_ne (tgt := 54) d_RR_readText_41 (by decide) (fun hb_41 => ?_) (fun hb_41 => ?_) | refine g_ifN_ne (tgt := 54) d_RR_readText_41 (by decide) (by omega) (fun hb_41 => ?_) (fun hb_41 => ?_)
      · refine g_iinc1 d_RR_readText_54 rfl (by decide) ?_
        refine g_goto (tgt := 9) d_RR_readText_57 (by decide) ?_
        refine ih M5 _ _ _ H5 hF5 hfr5 (he.trans ?_)
        rw [show 240 - (i + 1) = k by omega]
        conv => lhs; unfold sTx
        rw [if_neg n23, if_pos hb_41]
      · have e1 : sT n ts rs = (false, (sRu n ts b (rs4 (min i 7))).2.1, va_up rs4 (min i 7) (sRu n ts b (rs4 (min i 7))).2.2) := by
          rw [he]
          unfold sTx
          rw [if_neg n23, if_neg (by rw [hb_41]; decide)]
        rw [e1]
        refine g_iconst (v := -1) d_RR_readText_44 (by decide) ?_
        refine g_aload_n d_RR_readText_45 rfl ?_
        refine g_get f_RR_14 (by assumption) rfl d_RR_readText_46 ?_
        refine g_callV s_RR_44 sv_Pi_place (by assumption) rfl (g_of_val (k_Pi_place H5.2.1)) (by omega) rfl (by omega) (by omega) rfl (Nat.le_of_ble_eq_true rfl) d_RR_readText_49 ?_
        rintro _ _ _ ⟨rfl, rfl, rfl⟩
        refine g_isub d_RR_readText_52 ?_
        refine g_eqi (rI_neg (b := false) rfl _) ?_
        exact g_ireturn rfl rfl (by omega) (by omega) d_RR_readText_53 ⟨_, rfl, rfl, rfl, ⟨_, H5.1⟩, ⟨_, _, _, H5.2.1.1⟩, hF5, Nat.le_trans H5.2.1.2 hn240, hfr5⟩
theorem k_RR_init (h : M R = some (.inr (3, [.null, .null, .int 0]))) (hq : R + 1 = N) (ht : M t = some (.inr (1, [.ref (t + 1), .int (nI 0)]))) (hd : t + 1 < R) : Ctr l E y_RR_init 2 [.ref R, .ref t] N M 26 100 (g_ret (fun v N' M' => v = none ∧ N' = N + 26 ∧ M' R = some (.inr (3, [.ref (R + 1), .ref (R + 2), .int (nI 0)])) ∧ M' (R + 1) = some (.inr (2, [.ref t, .int 0, .int 0, .int 0])) ∧ o_rf E M' R (fun _ => (0, fun _ => 0, fun _ => 0)) ∧ ∀ x, (x < R ∨ R + 26 < x) → M' x = M x)) := by
  refine ctr_of [some (.ref R), some (.ref t), none] (by decide) w_52 rfl rfl (Nat.le_of_ble_eq_true rfl) (fun Γ => ?_)
  refine g_aload_n d_RR_init_0 rfl ?_
  refine g_objInit w_53 m_objI m_objC (by omega) (Nat.le_of_ble_eq_true rfl) d_RR_init_1 ?_
  refine g_aload_n d_RR_init_4 rfl ?_
  refine g_new n_RR_9 (by omega) (by omega) d_RR_init_5 ?_
  refine g_nm (fun M1 e1 f1 => ?_)
  have a1 := (f1 R (by omega)).trans h
  have a2 := (f1 t (by omega)).trans ht
  refine g_dup d_RR_init_8 rfl ?_
  refine g_aload_n d_RR_init_9 rfl ?_
  refine g_callI s_RR_11 sv_Pi_init (k_Pi_init e1 a2) (by omega) rfl (by omega) (by omega) rfl (Nat.le_of_ble_eq_true rfl) d_RR_init_10 ?_
  rintro v' N' M2 ⟨rfl, rfl, c1, c2⟩
  have a3 := (c2 R (by omega)).trans a1
  refine g_putF p_RR_14 rfl (by assumption) (Nat.le_of_ble_eq_true rfl) rfl rfl d_RR_init_13 ?_
  refine g_nm (fun M3 e3 f3 => ?_)
  refine g_aload_n d_RR_init_16 rfl ?_
  refine g_bipush (v := nI 8) d_RR_init_17 (by decide) ?_
  refine g_newq 3 _ rfl w_73 ao_Ru rfl (by decide) (by omega) (by omega) d_RR_init_19 ?_
  refine g_nm (fun M4 e4 f4 => ?_)
  have a4 := (f4 R (by omega)).trans e3
  refine g_putF p_RR_22 rfl (by assumption) (Nat.le_of_ble_eq_true rfl) rfl rfl d_RR_init_22 ?_
  refine g_nm (fun M5 e5 f5 => ?_)
  refine g_iconst (v := nI 0) d_RR_init_25 (by decide) ?_
  refine g_istore_n d_RR_init_26 (by decide) ?_
  refine g_for (P := fun i => ∀ (N1 : Nat) (M3 : gM), N1 = R + 3 + 3 * i → M3 R = some (.inr (3, [.ref (R + 1), .ref (R + 2), .int 0])) → M3 (R + 1) = some (.inr (2, [.ref t, .int 0, .int 0, .int 0])) → (∃ fa, M3 (R + 2) = some (g_qa E 3 8 fa) ∧ ∀ j, j < i → fa j = some (R + 3 + 3 * j)) → (∀ j, j < i → o_rule E M3 (R + 3 + 3 * j) (0, fun _ => 0, fun _ => 0)) → (∀ x, (x < R ∨ R + 26 < x) → M3 x = M x) → G _ _ _ _ _ _ _ _ _ _ _ _ 27 [some (.ref R), some (.ref t), some (.int (nI i))] [] N1 M3 (2 + 3 * i) (12 + 11 * i)) (e := 8) ?_ ?_ 0 (by decide) _ M5 (by omega) ?_ ?_ ?_ ?_ ?_
  · intro N1 M3 hN g1 g5 g2 g3 g4
    refine g_iload_n d_RR_init_27 rfl ?_
    refine g_bipush (v := nI 8) d_RR_init_28 (by decide) ?_
    refine g_icmpN_ge (tgt := 52) d_RR_init_30 (by decide) (by omega) (by omega) (fun hb_30 => ?_) (fun hb_30 => ?_)
    · refine g_return rfl (by omega) (by omega) d_RR_init_52 ⟨_, rfl, rfl, by omega, g1, g5, ⟨g2, fun j hj => ⟨_, g3 j hj, rfl, fun _ _ => ⟨rfl, rfl⟩⟩⟩, g4⟩
    · omega
  · intro i hi ih N1 M3 hN g1 g5 g2 g3 g4
    obtain ⟨fa, b1, b2⟩ := g2
    refine g_iload_n d_RR_init_27 rfl ?_
    refine g_bipush (v := nI 8) d_RR_init_28 (by decide) ?_
    refine g_icmpN_ge (tgt := 52) d_RR_init_30 (by decide) (by omega) (by omega) (fun hb_30 => ?_) (fun hb_30 => ?_)
    · omega
    refine g_aload_n d_RR_init_33 rfl ?_
    refine g_get f_RR_22 (by assumption) rfl d_RR_init_34 ?_
    refine g_iload_n d_RR_init_37 rfl ?_
    refine g_new n_RR_20 (by omega) (by omega) d_RR_init_38 ?_
    refine g_nm (fun M4 e4 f4 => ?_)
    have c1 := (f4 R (by omega)).trans g1
    have c2 := (f4 (R + 2) (by omega)).trans b1
    refine g_dup d_RR_init_41 rfl ?_
    refine g_callI s_RR_26 sv_Ru_init (k_Ru_init e4 rfl) (by omega) rfl (by omega) (by omega) rfl (Nat.le_of_ble_eq_true rfl) d_RR_init_42 ?_
    rintro v' N' M5 ⟨rfl, rfl, d1, d2⟩
    have c3 := (d2 (R + 2) (by omega) (by omega) (by omega)).trans c2
    have d3 := d1.1
    refine g_aast (ci := 4) (r := (R_Ru, F_Ru, 3)) i (by assumption) rfl rfl (by assumption) rfl (by omega) (by decide) d_RR_init_45 ?_
    refine g_nm (fun M6 e6 f6 => ?_)
    refine g_iinc1 d_RR_init_46 rfl (by decide) ?_
    refine g_goto (tgt := 27) d_RR_init_49 (by decide) ?_
    refine g_wide (k' := 2 + 3 * (i + 1)) (n' := 12 + 11 * (i + 1)) (by omega) (by omega) ?_
    refine ih _ M6 (by omega) ?_ ?_ ⟨_, e6, fun j hj => ?_⟩ (fun j hj => ?_) (fun x hx => ?_)
    · rw [f6 _ (by omega), d2 _ (by omega) (by omega) (by omega)]; exact c1
    · rw [f6 _ (by omega), d2 _ (by omega) (by omega) (by omega), f4 _ (by omega)]; exact g5
    · by_cases e : j = i
      · subst e
        rw [va_up_self, hN]
      · rw [va_up_ne _ _ e]
        exact b2 j (by omega)
    · by_cases e : j = i
      · subst e
        rw [hN] at d1
        exact d1.kept (fun x _ _ => f6 x (by omega))
      · exact (g3 j (by omega)).kept (fun x _ _ => by rw [f6 x (by omega), d2 x (by omega) (by omega) (by omega), f4 x (by omega)])
    · rw [f6 x (by omega), d2 x (by omega) (by omega) (by omega), f4 x (by omega)]
      exact g4 x hx
  · rw [e5]; subst hq; rfl
  · rw [f5 _ (by omega), f4 _ (by omega), f3 _ (by omega), hq]; exact c1
  · exact ⟨_, (f5 _ (by omega)).trans (by rw [show R + 2 = N + 1 by omega]; exact e4), fun j hj => by omega⟩
  · exact fun j hj => by omega
  · exact fun x hx => by rw [f5 x (by omega), f4 x (by omega), f3 x (by omega), c2 x (by omega), f1 x (by omega)]
end READER2

