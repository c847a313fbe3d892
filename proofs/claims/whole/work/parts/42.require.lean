/-! what the outer object asks of its arguments -/
def t_thr (ci N : Nat) (M : gM) : Outcome → Nat → gM → Prop := g_thr (fun a N' M' => a = N ∧ N' = N + 1 ∧ M' = va_up M N (some (.inr (ci, []))))
/-- an int that isn't a number below n -/
def noN (x : Int32) (n : Nat) : Prop := x < 0 ∨ ∃ j : Nat, x = nI j ∧ n ≤ j ∧ j < 2 ^ 31
theorem noN_or (x : Int32) (n : Nat) : noN x n ∨ ∃ j : Nat, x = nI j ∧ j < n ∧ j < 2 ^ 31 := by
  by_cases h : x < 0
  · exact Or.inl (Or.inl h)
  · obtain ⟨j, h1, h2⟩ := nI_of h
    by_cases h3 : j < n
    · exact Or.inr ⟨j, h2, h3, h1⟩
    · exact Or.inl (Or.inr ⟨j, h2, by omega, h1⟩)
section REQ
variable {l : Launch} {E : gE} {N : Nat} {M : gM} {b : Nat}
theorem k_RD_requireList (i : Nat) (hi : i < 2) : Ctr l E y_RD_requireList 6 [.ref b, .int (nI i)] N M 0 0 (g_val none N M) := by
  refine ctr_of [some (.ref b), some (.int (nI i))] (by decide) w_438 rfl rfl (Nat.le_of_ble_eq_true rfl) (fun Γ => ?_)
  refine g_iload_n d_RD_requireList_0 rfl ?_
  refine g_ifN_lt (tgt := 9) d_RD_requireList_1 (by decide) (by omega) (fun hb_1 => ?_) (fun hb_1 => ?_)
  · contradiction
  refine g_iload_n d_RD_requireList_4 rfl ?_
  refine g_iconst (v := nI 2) d_RD_requireList_5 (by decide) ?_
  refine g_icmpN_lt (tgt := 19) d_RD_requireList_6 (by decide) (by omega) (by omega) (fun hb_6 => ?_) (fun hb_6 => ?_)
  · exact g_return rfl (by omega) (by omega) d_RD_requireList_19 ⟨rfl, rfl, rfl⟩
  · omega
theorem x_RD_requireList (x : Int32) (hx : noN x 2) : Ctr l E y_RD_requireList 6 [.ref b, .int x] N M 1 6 (t_thr 13 N M) := by
  rcases hx with hx | ⟨j, rfl, h1, h2⟩
  · refine ctr_of [some (.ref b), some (.int x)] (by decide) w_438 rfl rfl (Nat.le_of_ble_eq_true rfl) (fun Γ => ?_)
    refine g_iload_n d_RD_requireList_0 rfl ?_
    refine g_if_lt (tgt := 9) d_RD_requireList_1 (by decide) (fun hb => ?_) (fun hb => absurd hx hb)
    exact g_throw (i := 2) xa_Ioe rfl rfl (by decide) w_439 w_440 w_17 rfl (by decide) (by omega) (by omega) (Nat.le_of_ble_eq_true rfl) d_RD_requireList_9 d_RD_requireList_12 d_RD_requireList_13 d_RD_requireList_15 d_RD_requireList_18 ⟨_, rfl, rfl, rfl, rfl⟩
  · refine ctr_of [some (.ref b), some (.int (nI j))] (by decide) w_438 rfl rfl (Nat.le_of_ble_eq_true rfl) (fun Γ => ?_)
    refine g_iload_n d_RD_requireList_0 rfl ?_
    refine g_ifN_lt (tgt := 9) d_RD_requireList_1 (by decide) (by omega) (fun hb_1 => ?_) (fun hb_1 => ?_)
    · contradiction
    refine g_iload_n d_RD_requireList_4 rfl ?_
    refine g_iconst (v := nI 2) d_RD_requireList_5 (by decide) ?_
    refine g_icmpN_lt (tgt := 19) d_RD_requireList_6 (by decide) (by omega) (by omega) (fun hb_6 => ?_) (fun hb_6 => ?_)
    · omega
    exact g_throw (i := 2) xa_Ioe rfl rfl (by decide) w_439 w_440 w_17 rfl (by decide) (by omega) (by omega) (Nat.le_of_ble_eq_true rfl) d_RD_requireList_9 d_RD_requireList_12 d_RD_requireList_13 d_RD_requireList_15 d_RD_requireList_18 ⟨_, rfl, rfl, rfl, rfl⟩
theorem k_RD_requireField (i : Nat) (hi : i < 4) : Ctr l E y_RD_requireField 6 [.int (nI i)] N M 0 0 (g_val none N M) := by
  refine ctr_of [some (.int (nI i))] (by decide) w_778 rfl rfl (Nat.le_of_ble_eq_true rfl) (fun Γ => ?_)
  refine g_iload_n d_RD_requireField_0 rfl ?_
  refine g_ifN_lt (tgt := 9) d_RD_requireField_1 (by decide) (by omega) (fun hb_1 => ?_) (fun hb_1 => ?_)
  · contradiction
  refine g_iload_n d_RD_requireField_4 rfl ?_
  refine g_iconst (v := nI 4) d_RD_requireField_5 (by decide) ?_
  refine g_icmpN_lt (tgt := 19) d_RD_requireField_6 (by decide) (by omega) (by omega) (fun hb_6 => ?_) (fun hb_6 => ?_)
  · exact g_return rfl (by omega) (by omega) d_RD_requireField_19 ⟨rfl, rfl, rfl⟩
  · omega
theorem x_RD_requireField (x : Int32) (hx : noN x 4) : Ctr l E y_RD_requireField 6 [.int x] N M 1 6 (t_thr 11 N M) := by
  rcases hx with hx | ⟨j, rfl, h1, h2⟩
  · refine ctr_of [some (.int x)] (by decide) w_778 rfl rfl (Nat.le_of_ble_eq_true rfl) (fun Γ => ?_)
    refine g_iload_n d_RD_requireField_0 rfl ?_
    refine g_if_lt (tgt := 9) d_RD_requireField_1 (by decide) (fun hb => ?_) (fun hb => absurd hx hb)
    exact g_throw (i := 15) xa_Iae rfl rfl (by decide) w_328 w_329 w_15 rfl (by decide) (by omega) (by omega) (Nat.le_of_ble_eq_true rfl) d_RD_requireField_9 d_RD_requireField_12 d_RD_requireField_13 d_RD_requireField_15 d_RD_requireField_18 ⟨_, rfl, rfl, rfl, rfl⟩
  · refine ctr_of [some (.int (nI j))] (by decide) w_778 rfl rfl (Nat.le_of_ble_eq_true rfl) (fun Γ => ?_)
    refine g_iload_n d_RD_requireField_0 rfl ?_
    refine g_ifN_lt (tgt := 9) d_RD_requireField_1 (by decide) (by omega) (fun hb_1 => ?_) (fun hb_1 => ?_)
    · contradiction
    refine g_iload_n d_RD_requireField_4 rfl ?_
    refine g_iconst (v := nI 4) d_RD_requireField_5 (by decide) ?_
    refine g_icmpN_lt (tgt := 19) d_RD_requireField_6 (by decide) (by omega) (by omega) (fun hb_6 => ?_) (fun hb_6 => ?_)
    · omega
    exact g_throw (i := 15) xa_Iae rfl rfl (by decide) w_328 w_329 w_15 rfl (by decide) (by omega) (by omega) (Nat.le_of_ble_eq_true rfl) d_RD_requireField_9 d_RD_requireField_12 d_RD_requireField_13 d_RD_requireField_15 d_RD_requireField_18 ⟨_, rfl, rfl, rfl, rfl⟩
theorem k_RD_requireValue (f v : Nat) (hf : f < 4) (hv : v ≤ mst f) : Ctr l E y_RD_requireValue 6 [.int (nI f), .int (nI v)] N M 0 0 (g_val none N M) := by
  have hm := mst_lt f
  refine ctr_of [some (.int (nI f)), some (.int (nI v))] (by decide) w_700 rfl rfl (Nat.le_of_ble_eq_true rfl) (fun Γ => ?_)
  refine g_iload_n d_RD_requireValue_0 rfl ?_
  refine g_ifN_lt (tgt := 12) d_RD_requireValue_1 (by decide) (by omega) (fun hb_1 => ?_) (fun hb_1 => ?_)
  · contradiction
  refine g_iload_n d_RD_requireValue_4 rfl ?_
  refine g_iload_n d_RD_requireValue_5 rfl ?_
  refine g_callS s_RD_195 sv_RD_greatestOf (g_of_val (k_RD_greatestOf f hf)) (by omega) rfl (by omega) (by omega) rfl (Nat.le_of_ble_eq_true rfl) d_RD_requireValue_6 ?_
  rintro _ _ _ ⟨rfl, rfl, rfl⟩
  refine g_icmpN_le (tgt := 22) d_RD_requireValue_9 (by decide) (by omega) (by omega) (fun hb_9 => ?_) (fun hb_9 => ?_)
  · exact g_return rfl (by omega) (by omega) d_RD_requireValue_22 ⟨rfl, rfl, rfl⟩
  · omega
theorem x_RD_requireValue (f : Nat) (hf : f < 4) (x : Int32) (hx : noN x (mst f + 1)) : Ctr l E y_RD_requireValue 6 [.int (nI f), .int x] N M 1 6 (t_thr 11 N M) := by
  have hm := mst_lt f
  rcases hx with hx | ⟨j, rfl, h1, h2⟩
  · refine ctr_of [some (.int (nI f)), some (.int x)] (by decide) w_700 rfl rfl (Nat.le_of_ble_eq_true rfl) (fun Γ => ?_)
    refine g_iload_n d_RD_requireValue_0 rfl ?_
    refine g_if_lt (tgt := 12) d_RD_requireValue_1 (by decide) (fun hb => ?_) (fun hb => absurd hx hb)
    exact g_throw (i := 13) xa_Iae rfl rfl (by decide) w_328 w_329 w_15 rfl (by decide) (by omega) (by omega) (Nat.le_of_ble_eq_true rfl) d_RD_requireValue_12 d_RD_requireValue_15 d_RD_requireValue_16 d_RD_requireValue_18 d_RD_requireValue_21 ⟨_, rfl, rfl, rfl, rfl⟩
  · refine ctr_of [some (.int (nI f)), some (.int (nI j))] (by decide) w_700 rfl rfl (Nat.le_of_ble_eq_true rfl) (fun Γ => ?_)
    refine g_iload_n d_RD_requireValue_0 rfl ?_
    refine g_ifN_lt (tgt := 12) d_RD_requireValue_1 (by decide) (by omega) (fun hb_1 => ?_) (fun hb_1 => ?_)
    · contradiction
    refine g_iload_n d_RD_requireValue_4 rfl ?_
    refine g_iload_n d_RD_requireValue_5 rfl ?_
    refine g_callS s_RD_195 sv_RD_greatestOf (g_of_val (k_RD_greatestOf f hf)) (by omega) rfl (by omega) (by omega) rfl (Nat.le_of_ble_eq_true rfl) d_RD_requireValue_6 ?_
    rintro _ _ _ ⟨rfl, rfl, rfl⟩
    refine g_icmpN_le (tgt := 22) d_RD_requireValue_9 (by decide) (by omega) (by omega) (fun hb_9 => ?_) (fun hb_9 => ?_)
    · omega
    exact g_throw (i := 13) xa_Iae rfl rfl (by decide) w_328 w_329 w_15 rfl (by decide) (by omega) (by omega) (Nat.le_of_ble_eq_true rfl) d_RD_requireValue_12 d_RD_requireValue_15 d_RD_requireValue_16 d_RD_requireValue_18 d_RD_requireValue_21 ⟨_, rfl, rfl, rfl, rfl⟩
theorem k_RD_packetOf (a c e g : Nat) (ha : a ≤ 255) (hc : c ≤ 255) (he : e ≤ 1023) (hg : g ≤ 3) : Ctr l E y_RD_packetOf 7 [.int (nI a), .int (nI c), .int (nI e), .int (nI g)] N M 0 0 (g_val (some (.int (nI (pkt a c e g)))) N M) := by
  refine ctr_of [some (.int (nI a)), some (.int (nI c)), some (.int (nI e)), some (.int (nI g))] (by decide) w_697 rfl rfl (Nat.le_of_ble_eq_true rfl) (fun Γ => ?_)
  refine g_iconst (v := nI 0) d_RD_packetOf_0 (by decide) ?_
  refine g_iload_n d_RD_packetOf_1 rfl ?_
  refine g_callS s_RD_200 sv_RD_requireValue (g_of_val (k_RD_requireValue 0 a (by decide) ha)) (by omega) rfl (by omega) (by omega) rfl (Nat.le_of_ble_eq_true rfl) d_RD_packetOf_2 ?_
  rintro _ _ _ ⟨rfl, rfl, rfl⟩
  refine g_iconst (v := nI 1) d_RD_packetOf_5 (by decide) ?_
  refine g_iload_n d_RD_packetOf_6 rfl ?_
  refine g_callS s_RD_200 sv_RD_requireValue (g_of_val (k_RD_requireValue 1 c (by decide) hc)) (by omega) rfl (by omega) (by omega) rfl (Nat.le_of_ble_eq_true rfl) d_RD_packetOf_7 ?_
  rintro _ _ _ ⟨rfl, rfl, rfl⟩
  refine g_iconst (v := nI 2) d_RD_packetOf_10 (by decide) ?_
  refine g_iload_n d_RD_packetOf_11 rfl ?_
  refine g_callS s_RD_200 sv_RD_requireValue (g_of_val (k_RD_requireValue 2 e (by decide) he)) (by omega) rfl (by omega) (by omega) rfl (Nat.le_of_ble_eq_true rfl) d_RD_packetOf_12 ?_
  rintro _ _ _ ⟨rfl, rfl, rfl⟩
  refine g_iconst (v := nI 3) d_RD_packetOf_15 (by decide) ?_
  refine g_iload_n d_RD_packetOf_16 rfl ?_
  refine g_callS s_RD_200 sv_RD_requireValue (g_of_val (k_RD_requireValue 3 g (by decide) hg)) (by omega) rfl (by omega) (by omega) rfl (Nat.le_of_ble_eq_true rfl) d_RD_packetOf_17 ?_
  rintro _ _ _ ⟨rfl, rfl, rfl⟩
  refine g_iload_n d_RD_packetOf_20 rfl ?_
  refine g_iload_n d_RD_packetOf_21 rfl ?_
  refine g_iload_n d_RD_packetOf_22 rfl ?_
  refine g_iload_n d_RD_packetOf_23 rfl ?_
  refine g_callS s_RD_203 sv_RD_joined (g_of_val (k_RD_joined a c e g ha hc he hg)) (by omega) rfl (by omega) (by omega) rfl (Nat.le_of_ble_eq_true rfl) d_RD_packetOf_24 ?_
  rintro _ _ _ ⟨rfl, rfl, rfl⟩
  exact g_ireturn rfl (by first | rfl | exact bI_nar _) (by omega) (by omega) d_RD_packetOf_27 ⟨rfl, rfl, rfl⟩
/-- four ints that are no packet -/
def noP (a c e g : Int32) : Prop := noN a 256 ∨ noN c 256 ∨ noN e 1024 ∨ noN g 4
theorem noP_or (a c e g : Int32) : noP a c e g ∨ ∃ a' c' e' g' : Nat, a = nI a' ∧ c = nI c' ∧ e = nI e' ∧ g = nI g' ∧ a' ≤ 255 ∧ c' ≤ 255 ∧ e' ≤ 1023 ∧ g' ≤ 3 := by
  rcases noN_or a 256 with h | ⟨a', h1, h2, -⟩
  · exact Or.inl (Or.inl h)
  rcases noN_or c 256 with h | ⟨c', h3, h4, -⟩
  · exact Or.inl (Or.inr (Or.inl h))
  rcases noN_or e 1024 with h | ⟨e', h5, h6, -⟩
  · exact Or.inl (Or.inr (Or.inr (Or.inl h)))
  rcases noN_or g 4 with h | ⟨g', h7, h8, -⟩
  · exact Or.inl (Or.inr (Or.inr (Or.inr h)))
  exact Or.inr ⟨a', c', e', g', h1, h3, h5, h7, by omega, by omega, by omega, by omega⟩
theorem x_RD_packetOf (a c e g : Int32) (h : noP a c e g) : Ctr l E y_RD_packetOf 7 [.int a, .int c, .int e, .int g] N M 1 6 (t_thr 11 N M) := by
  rcases noN_or a 256 with ha | ⟨a', rfl, ha, -⟩
  · refine ctr_of [some (.int a), some (.int c), some (.int e), some (.int g)] (by decide) w_697 rfl rfl (Nat.le_of_ble_eq_true rfl) (fun Γ => ?_)
    refine g_iconst (v := nI 0) d_RD_packetOf_0 (by decide) ?_
    refine g_iload_n d_RD_packetOf_1 rfl ?_
    exact g_thrS s_RD_200 sv_RD_requireValue (x_RD_requireValue 0 (by decide) a ha) (by omega) rfl (by omega) (by omega) rfl (Nat.le_of_ble_eq_true rfl) d_RD_packetOf_2 (fun b _ _ hb => ⟨b, rfl, hb⟩)
  rcases noN_or c 256 with hc | ⟨c', rfl, hc, -⟩
  · refine ctr_of [some (.int (nI a')), some (.int c), some (.int e), some (.int g)] (by decide) w_697 rfl rfl (Nat.le_of_ble_eq_true rfl) (fun Γ => ?_)
    refine g_iconst (v := nI 0) d_RD_packetOf_0 (by decide) ?_
    refine g_iload_n d_RD_packetOf_1 rfl ?_
    refine g_callS s_RD_200 sv_RD_requireValue (g_of_val (k_RD_requireValue 0 a' (by decide) (Nat.lt_succ_iff.mp ha))) (by omega) rfl (by omega) (by omega) rfl (Nat.le_of_ble_eq_true rfl) d_RD_packetOf_2 ?_
    rintro _ _ _ ⟨rfl, rfl, rfl⟩
    refine g_iconst (v := nI 1) d_RD_packetOf_5 (by decide) ?_
    refine g_iload_n d_RD_packetOf_6 rfl ?_
    exact g_thrS s_RD_200 sv_RD_requireValue (x_RD_requireValue 1 (by decide) c hc) (by omega) rfl (by omega) (by omega) rfl (Nat.le_of_ble_eq_true rfl) d_RD_packetOf_7 (fun b _ _ hb => ⟨b, rfl, hb⟩)
  rcases noN_or e 1024 with he | ⟨e', rfl, he, -⟩
  · refine ctr_of [some (.int (nI a')), some (.int (nI c')), some (.int e), some (.int g)] (by decide) w_697 rfl rfl (Nat.le_of_ble_eq_true rfl) (fun Γ => ?_)
    refine g_iconst (v := nI 0) d_RD_packetOf_0 (by decide) ?_
    refine g_iload_n d_RD_packetOf_1 rfl ?_
    refine g_callS s_RD_200 sv_RD_requireValue (g_of_val (k_RD_requireValue 0 a' (by decide) (Nat.lt_succ_iff.mp ha))) (by omega) rfl (by omega) (by omega) rfl (Nat.le_of_ble_eq_true rfl) d_RD_packetOf_2 ?_
    rintro _ _ _ ⟨rfl, rfl, rfl⟩
    refine g_iconst (v := nI 1) d_RD_packetOf_5 (by decide) ?_
    refine g_iload_n d_RD_packetOf_6 rfl ?_
    refine g_callS s_RD_200 sv_RD_requireValue (g_of_val (k_RD_requireValue 1 c' (by decide) (Nat.lt_succ_iff.mp hc))) (by omega) rfl (by omega) (by omega) rfl (Nat.le_of_ble_eq_true rfl) d_RD_packetOf_7 ?_
    rintro _ _ _ ⟨rfl, rfl, rfl⟩
    refine g_iconst (v := nI 2) d_RD_packetOf_10 (by decide) ?_
    refine g_iload_n d_RD_packetOf_11 rfl ?_
    exact g_thrS s_RD_200 sv_RD_requireValue (x_RD_requireValue 2 (by decide) e he) (by omega) rfl (by omega) (by omega) rfl (Nat.le_of_ble_eq_true rfl) d_RD_packetOf_12 (fun b _ _ hb => ⟨b, rfl, hb⟩)
  rcases noN_or g 4 with hg | ⟨g', rfl, hg, -⟩
  · refine ctr_of [some (.int (nI a')), some (.int (nI c')), some (.int (nI e')), some (.int g)] (by decide) w_697 rfl rfl (Nat.le_of_ble_eq_true rfl) (fun Γ => ?_)
    refine g_iconst (v := nI 0) d_RD_packetOf_0 (by decide) ?_
    refine g_iload_n d_RD_packetOf_1 rfl ?_
    refine g_callS s_RD_200 sv_RD_requireValue (g_of_val (k_RD_requireValue 0 a' (by decide) (Nat.lt_succ_iff.mp ha))) (by omega) rfl (by omega) (by omega) rfl (Nat.le_of_ble_eq_true rfl) d_RD_packetOf_2 ?_
    rintro _ _ _ ⟨rfl, rfl, rfl⟩
    refine g_iconst (v := nI 1) d_RD_packetOf_5 (by decide) ?_
    refine g_iload_n d_RD_packetOf_6 rfl ?_
    refine g_callS s_RD_200 sv_RD_requireValue (g_of_val (k_RD_requireValue 1 c' (by decide) (Nat.lt_succ_iff.mp hc))) (by omega) rfl (by omega) (by omega) rfl (Nat.le_of_ble_eq_true rfl) d_RD_packetOf_7 ?_
    rintro _ _ _ ⟨rfl, rfl, rfl⟩
    refine g_iconst (v := nI 2) d_RD_packetOf_10 (by decide) ?_
    refine g_iload_n d_RD_packetOf_11 rfl ?_
    refine g_callS s_RD_200 sv_RD_requireValue (g_of_val (k_RD_requireValue 2 e' (by decide) (Nat.lt_succ_iff.mp he))) (by omega) rfl (by omega) (by omega) rfl (Nat.le_of_ble_eq_true rfl) d_RD_packetOf_12 ?_
    rintro _ _ _ ⟨rfl, rfl, rfl⟩
    refine g_iconst (v := nI 3) d_RD_packetOf_15 (by decide) ?_
    refine g_iload_n d_RD_packetOf_16 rfl ?_
    exact g_thrS s_RD_200 sv_RD_requireValue (x_RD_requireValue 3 (by decide) g hg) (by omega) rfl (by omega) (by omega) rfl (Nat.le_of_ble_eq_true rfl) d_RD_packetOf_17 (fun b _ _ hb => ⟨b, rfl, hb⟩)
  exfalso
  have no : ∀ (j n : Nat), j < n → n ≤ 1024 → ¬ noN (nI j) n := by
    intro j n h1 h2 h3
    rcases h3 with h3 | ⟨i, h4, h5, h6⟩
    · exact nI_pos (by omega) h3
    · have := (nI_eq (by omega) h6).mp h4
      omega
  rcases h with h | h | h | h
  · exact no _ _ ha (by omega) h
  · exact no _ _ hc (by omega) h
  · exact no _ _ he (by omega) h
  · exact no _ _ hg (by omega) h
end REQ

