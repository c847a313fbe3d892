/-! both lists set against one another -/
def ag2 (r1 : Nat → Rl) (m1 : Nat) (r2 : Nat → Rl) (m2 f x : Nat) : Nat := ags r1 f x m1 ||| ags r2 f x m2 * 2 ^ 8
def ul (r1 : Nat → Rl) (m1 : Nat) (r2 : Nat → Rl) (m2 : Nat) : Nat → Nat → Nat
  | 0, s => if jds r1 (s % 256) = jds r2 (s / 256) then 0 else 1
  | k + 1, s => sm (fun x => ul r1 m1 r2 m2 k (s &&& ag2 r1 m1 r2 m2 (3 - k) x)) (mst (3 - k) + 1)
def cut2_ok (r1 : Nat → Rl) (m1 : Nat) (r2 : Nat → Rl) (m2 f n : Nat) (st ss : Nat → Nat) : Prop := rows_ok st n (mst f + 1) ∧ ∀ r, r < n → ∀ x, st r ≤ x → x < enr st n (mst f + 1) r → ag2 r1 m1 r2 m2 f x = ss r
theorem ul_zero (r1 : Nat → Rl) (m1 : Nat) (r2 : Nat → Rl) (m2 : Nat) : ∀ k, ul r1 m1 r2 m2 k 0 = 0 := by
  intro k
  induction k with
  | zero => rfl
  | succ k ih =>
    show sm (fun x => ul r1 m1 r2 m2 k (0 &&& ag2 r1 m1 r2 m2 (3 - k) x)) (mst (3 - k) + 1) = 0
    rw [sm_congr (g := fun _ => 0) (fun x _ => by rw [Nat.zero_and]; exact ih), sm_zero]
theorem and_ok {a1 a2 m1 : Nat} (s : Nat) (h1 : a1 < 2 ^ m1) (hm : m1 ≤ 8) : (s &&& (a1 ||| a2 * 2 ^ 8)) % 256 = (s % 256) &&& a1 ∧ (s &&& (a1 ||| a2 * 2 ^ 8)) / 256 = (s / 256) &&& a2 := by
  have hp : 2 ^ m1 ≤ 2 ^ 8 := Nat.pow_le_pow_right (by omega) hm
  have h2 : a1 < 256 := by omega
  constructor
  · rw [show (256 : Nat) = 2 ^ 8 from rfl, Nat.and_mod_two_pow, Nat.or_mod_two_pow, Nat.mul_mod_left, Nat.or_zero, Nat.mod_eq_of_lt (a := a1) h2]
  · rw [show (256 : Nat) = 2 ^ 8 from rfl, Nat.and_div_two_pow, Nat.or_div_two_pow, Nat.mul_div_cancel _ (by decide), Nat.div_eq_of_lt (a := a1) h2, Nat.zero_or]
def pr2 : Nat → Nat
  | 0 => 1
  | k + 1 => pr2 k * (mst (3 - k) + 1)
theorem pr2_le : ∀ k, k < 5 → pr2 k ≤ 268435456 := by decide
theorem ul_le (r1 : Nat → Rl) (m1 : Nat) (r2 : Nat → Rl) (m2 : Nat) : ∀ k s, ul r1 m1 r2 m2 k s ≤ pr2 k := by
  intro k
  induction k with
  | zero =>
    intro s
    show (if _ then 0 else 1) ≤ 1
    split <;> omega
  | succ k ih =>
    intro s
    show sm (fun x => ul r1 m1 r2 m2 k (s &&& ag2 r1 m1 r2 m2 (3 - k) x)) (mst (3 - k) + 1) ≤ pr2 k * (mst (3 - k) + 1)
    have h := sm_le (f := fun x => ul r1 m1 r2 m2 k (s &&& ag2 r1 m1 r2 m2 (3 - k) x)) (g := fun _ => pr2 k) (n := mst (3 - k) + 1) (fun x _ => ih _)
    rw [sm_const, Nat.mul_comm] at h
    exact h
theorem ul_rows {r1 r2 : Nat → Rl} {m1 m2 k n : Nat} {st ss : Nat → Nat} (h : cut2_ok r1 m1 r2 m2 (3 - k) n st ss) (s : Nat) : sm (fun r => ul r1 m1 r2 m2 k (s &&& ss r) * (enr st n (mst (3 - k) + 1) r - st r)) n = ul r1 m1 r2 m2 (k + 1) s := by
  show _ = sm (fun x => ul r1 m1 r2 m2 k (s &&& ag2 r1 m1 r2 m2 (3 - k) x)) (mst (3 - k) + 1)
  rw [← sm_rows (F := fun x => ul r1 m1 r2 m2 k (s &&& ag2 r1 m1 r2 m2 (3 - k) x)) h.1 (fun r hr y h1 h2 => by
    show ul r1 m1 r2 m2 k (s &&& ag2 r1 m1 r2 m2 (3 - k) y) = ul r1 m1 r2 m2 k (s &&& ag2 r1 m1 r2 m2 (3 - k) (st r))
    rw [h.2 r hr y h1 h2, h.2 r hr (st r) (Nat.le_refl _) (rows_lt h.1 hr)])]
  refine sm_congr (fun r hr => ?_)
  show _ = ul r1 m1 r2 m2 k (s &&& ag2 r1 m1 r2 m2 (3 - k) (st r)) * _
  rw [h.2 r hr (st r) (Nat.le_refl _) (rows_lt h.1 hr)]
def o_co (E : gE) (M : gM) (C q1 q2 : Nat) : Prop := M C = some (.inr (8, [.ref q1, .ref q2, .ref (C + 1)])) ∧ ∃ fa, M (C + 1) = some (g_qa E 6 4 fa) ∧ ∀ j, j < 4 → fa j = some (C + 2 + 3 * j)
def o_cC (E : gE) (M : gM) (C : Nat) (cn : Nat → Nat) (cs ct : Nat → Nat → Nat) : Prop := ∀ f, f < 4 → o_cut E M (C + 2 + 3 * f) f 33 (cn f) (cs f) (ct f)
theorem o_co.kept {E : gE} {M M' : gM} {C q1 q2 : Nat} (h : o_co E M C q1 q2) (hk : ∀ x, x = C ∨ x = C + 1 → M' x = M x) : o_co E M' C q1 q2 := by
  obtain ⟨h1, fa, h2, h3⟩ := h
  exact ⟨(hk _ (by omega)).trans h1, fa, (hk _ (by omega)).trans h2, h3⟩
theorem o_cC.kept {E : gE} {M M' : gM} {D : Nat} {cn : Nat → Nat} {cs ct : Nat → Nat → Nat} (h : o_cC E M D cn cs ct) (hk : ∀ x, D + 2 ≤ x → x ≤ D + 13 → M' x = M x) : o_cC E M' D cn cs ct := fun f hf => (h f hf).kept (fun x _ _ => hk x (by omega) (by omega))
section COMP
variable {l : Launch} {E : gE} {N : Nat} {M : gM} {C q1 q2 m1 m2 : Nat} {cn : Nat → Nat} {cs ct : Nat → Nat → Nat} {r1 r2 : Nat → Rl}
theorem jds_lt {q m : Nat} {rs : Nat → Rl} (hR : o_list E M q m rs) {s : Nat} (hs : s < 2 ^ m) : jds rs s < 3 := by
  unfold jds
  split
  · omega
  · exact (hR.2.2.1 _ (lb_n m hR.2.1 s hs (by assumption))).1
theorem k_Co_everyRule : Ctr l E y_Co_everyRule 0 [] N M 0 0 (g_val (some (.int (nI 65535))) N M) := by
  refine ctr_of [] (by decide) w_277 rfl rfl (Nat.le_of_ble_eq_true rfl) (fun Γ => ?_)
  refine g_ldc w_278 d_Co_everyRule_0 ?_
  refine g_eqi (z := nI 65535) (by decide) ?_
  exact g_ireturn rfl (by first | rfl | exact bI_nar _) (by omega) (by omega) d_Co_everyRule_2 ⟨rfl, rfl, rfl⟩
theorem k_Co_judgesUnlike (h : o_co E M C q1 q2) (hA : o_list E M q1 m1 r1) (hB : o_list E M q2 m2 r2) (s : Nat) (hs : s < 65536) (h1 : s % 256 < 2 ^ m1) (h2 : s / 256 < 2 ^ m2) : Ctr l E y_Co_judgesUnlike 3 [.ref C, .int (nI s)] N M 0 0 (g_val (some (.int (bI (decide (jds r1 (s % 256) ≠ jds r2 (s / 256)))))) N M) := by
  obtain ⟨g1, g2⟩ := h
  have hAa := hA.1
  have hBa := hB.1
  have jA := jds_lt hA h1
  have jB := jds_lt hB h2
  refine ctr_of [some (.ref C), some (.int (nI s)), none, none] (by decide) w_285 rfl rfl (Nat.le_of_ble_eq_true rfl) (fun Γ => ?_)
  refine g_iload_n d_Co_judgesUnlike_0 rfl ?_
  refine g_sipush (v := nI 255) d_Co_judgesUnlike_1 (by decide) ?_
  refine g_iand d_Co_judgesUnlike_4 ?_
  refine g_eqi (z := nI (s % 256)) (by rw [nI_and]; exact congrArg nI (Nat.and_two_pow_sub_one_eq_mod s 8)) ?_
  refine g_istore_n d_Co_judgesUnlike_5 (by decide) ?_
  refine g_iload_n d_Co_judgesUnlike_6 rfl ?_
  refine g_bipush (v := nI 8) d_Co_judgesUnlike_7 (by decide) ?_
  refine g_iushr d_Co_judgesUnlike_9 rfl ?_
  refine g_eqi (z := nI (s / 256)) (nI_ushr (by omega) (by omega)) ?_
  refine g_istore_n d_Co_judgesUnlike_10 (by decide) ?_
  refine g_aload_n d_Co_judgesUnlike_11 rfl ?_
  refine g_get f_Co_9 (by assumption) rfl d_Co_judgesUnlike_12 ?_
  refine g_iload_n d_Co_judgesUnlike_15 rfl ?_
  refine g_callV s_Co_71 sv_RL_judgeSet (by assumption) rfl (g_of_val (k_RL_judgeSet hA (s % 256) h1)) (by omega) rfl (by omega) (by omega) rfl (Nat.le_of_ble_eq_true rfl) d_Co_judgesUnlike_16 ?_
  rintro _ _ _ ⟨rfl, rfl, rfl⟩
  refine g_eqi (z := nI (jds r1 (s % 256))) rfl ?_
  refine g_aload_n d_Co_judgesUnlike_19 rfl ?_
  refine g_get f_Co_15 (by assumption) rfl d_Co_judgesUnlike_20 ?_
  refine g_iload_n d_Co_judgesUnlike_23 rfl ?_
  refine g_callV s_Co_71 sv_RL_judgeSet (by assumption) rfl (g_of_val (k_RL_judgeSet hB (s / 256) h2)) (by omega) rfl (by omega) (by omega) rfl (Nat.le_of_ble_eq_true rfl) d_Co_judgesUnlike_24 ?_
  rintro _ _ _ ⟨rfl, rfl, rfl⟩
  refine g_eqi (z := nI (jds r2 (s / 256))) rfl ?_
  refine g_icmpN_eq (tgt := 34) d_Co_judgesUnlike_27 (by decide) (by omega) (by omega) (fun hb_27 => ?_) (fun hb_27 => ?_)
  · refine g_iconst (v := nI 0) d_Co_judgesUnlike_34 (by decide) ?_
    refine g_Fa (b := decide (jds r1 (s % 256) ≠ jds r2 (s / 256))) (decide_eq_false (fun q => q hb_27)) ?_
    exact g_ireturn rfl (by first | rfl | exact bI_nar _) (by omega) (by omega) d_Co_judgesUnlike_35 ⟨rfl, rfl, rfl⟩
  · refine g_iconst (v := nI 1) d_Co_judgesUnlike_30 (by decide) ?_
    refine g_goto (tgt := 35) d_Co_judgesUnlike_31 (by decide) ?_
    refine g_Tr (b := decide (jds r1 (s % 256) ≠ jds r2 (s / 256))) (decide_eq_true hb_27) ?_
    exact g_ireturn rfl (by first | rfl | exact bI_nar _) (by omega) (by omega) d_Co_judgesUnlike_35 ⟨rfl, rfl, rfl⟩
def s_ok (m1 m2 k s : Nat) : Prop := s < 65536 ∧ (k < 4 → s % 256 < 2 ^ m1 ∧ s / 256 < 2 ^ m2)
theorem s_ok.and {f n k s r : Nat} {st ss : Nat → Nat} (h : cut2_ok r1 m1 r2 m2 f n st ss) (hm : m1 ≤ 8) (hr : r < n) (hs : s < 65536) : s_ok m1 m2 k (s &&& ss r) := by
  have e := h.2 r hr (st r) (Nat.le_refl _) (rows_lt h.1 hr)
  rw [← e]
  have h1 := ags_lt r1 f (st r) m1
  have h2 := ags_lt r2 f (st r) m2
  have h3 := and_ok (a2 := ags r2 f (st r) m2) s h1 hm
  refine ⟨Nat.lt_of_le_of_lt Nat.and_le_left hs, fun _ => ⟨?_, ?_⟩⟩
  · show (s &&& (ags r1 f (st r) m1 ||| ags r2 f (st r) m2 * 2 ^ 8)) % 256 < _
    rw [h3.1]
    exact Nat.lt_of_le_of_lt Nat.and_le_right h1
  · show (s &&& (ags r1 f (st r) m1 ||| ags r2 f (st r) m2 * 2 ^ 8)) / 256 < _
    rw [h3.2]
    exact Nat.lt_of_le_of_lt Nat.and_le_right h2
theorem k_Co_unlikeFrom (h : o_co E M C q1 q2) (hA : o_list E M q1 m1 r1) (hB : o_list E M q2 m2 r2) (hC : o_cC E M C cn cs ct) (hc : ∀ f, f < 4 → cut2_ok r1 m1 r2 m2 f (cn f) (cs f) (ct f)) : ∀ k, k < 5 → ∀ s, s_ok m1 m2 k s → Ctr l E y_Co_unlikeFrom (4 + k) [.ref C, .int (nI (4 - k)), .int (nI s)] N M 0 0 (g_val (some (.int (nI (ul r1 m1 r2 m2 k s)))) N M) := by
  have h0 := h
  obtain ⟨h1, fa, h2, h3⟩ := h
  intro k
  induction k with
  | zero =>
    intro _ s hs
    have hs1 := hs.1
    obtain ⟨v1, v2⟩ := hs.2 (by omega)
    refine ctr_of [some (.ref C), some (.int (nI (4 - 0))), some (.int (nI s)), none, none, none, none, none, none] (by decide) w_281 rfl rfl (Nat.le_of_ble_eq_true rfl) (fun Γ => ?_)
    refine g_iload_n d_Co_unlikeFrom_0 rfl ?_
    first | refine g_ifB_ne (tgt := 6) d_Co_unlikeFrom_1 (by decide) (fun hb_1 => ?_) (fun hb_1 => ?_) | refine g_ifN_ne (tgt := 6) d_Co_unlikeFrom_1 (by decide) (by omega) (fun hb_1 => ?_) (fun hb_1 => ?_)
    · refine g_iload_n d_Co_unlikeFrom_6 rfl ?_
      refine g_iconst (v := nI 4) d_Co_unlikeFrom_7 (by decide) ?_
      refine g_icmpN_lt (tgt := 25) d_Co_unlikeFrom_8 (by decide) (by omega) (by omega) (fun hb_8 => ?_) (fun hb_8 => ?_)
      · omega
      refine g_aload_n d_Co_unlikeFrom_11 rfl ?_
      refine g_iload_n d_Co_unlikeFrom_12 rfl ?_
      refine g_callV s_Co_64 sv_Co_judgesUnlike (by assumption) rfl (g_of_val (k_Co_judgesUnlike h0 hA hB s hs1 v1 v2)) (by omega) rfl (by omega) (by omega) rfl (Nat.le_of_ble_eq_true rfl) d_Co_unlikeFrom_13 ?_
      rintro _ _ _ ⟨rfl, rfl, rfl⟩
      first | refine g_ifB_eq (tgt := 23) d_Co_unlikeFrom_16 (by decide) (fun hb_16 => ?_) (fun hb_16 => ?_) | refine g_ifN_eq (tgt := 23) d_Co_unlikeFrom_16 (by decide) (by omega) (fun hb_16 => ?_) (fun hb_16 => ?_)
      · refine g_iconst (v := nI 0) d_Co_unlikeFrom_23 (by decide) ?_
        refine g_eqi (z := nI (ul r1 m1 r2 m2 0 s)) (by
          show nI 0 = nI (if jds r1 (s % 256) = jds r2 (s / 256) then 0 else 1)
          rw [if_pos (Classical.byContradiction (of_decide_eq_false hb_16))]) ?_
        exact g_ireturn rfl (by first | rfl | exact bI_nar _) (by omega) (by omega) d_Co_unlikeFrom_24 ⟨rfl, rfl, rfl⟩
      · refine g_iconst (v := nI 1) d_Co_unlikeFrom_19 (by decide) ?_
        refine g_goto (tgt := 24) d_Co_unlikeFrom_20 (by decide) ?_
        refine g_eqi (z := nI (ul r1 m1 r2 m2 0 s)) (by
          show nI 1 = nI (if jds r1 (s % 256) = jds r2 (s / 256) then 0 else 1)
          rw [if_neg (of_decide_eq_true hb_16)]) ?_
        exact g_ireturn rfl (by first | rfl | exact bI_nar _) (by omega) (by omega) d_Co_unlikeFrom_24 ⟨rfl, rfl, rfl⟩
    · refine g_iconst (v := nI 0) d_Co_unlikeFrom_4 (by decide) ?_
      refine g_eqi (z := nI (ul r1 m1 r2 m2 0 s)) (by rw [hb_1, ul_zero]) ?_
      exact g_ireturn rfl (by first | rfl | exact bI_nar _) (by omega) (by omega) d_Co_unlikeFrom_5 ⟨rfl, rfl, rfl⟩
  | succ k ih =>
    intro hk s hs
    have hs1 := hs.1
    obtain ⟨f, hf⟩ : ∃ f, f = 3 - k := ⟨_, rfl⟩
    have hf4 : f < 4 := by omega
    have ef : 4 - (k + 1) = f := by omega
    have ek : 4 - k = f + 1 := by omega
    rw [ef]
    rw [ek] at ih
    have hcu := hC f hf4
    have hcua := hcu.1
    have hn := hcu.2.2.1
    have hco := hc f hf4
    refine ctr_of [some (.ref C), some (.int (nI f)), some (.int (nI s)), none, none, none, none, none, none] (by decide) w_281 rfl rfl (Nat.le_of_ble_eq_true rfl) (fun Γ => ?_)
    refine g_iload_n d_Co_unlikeFrom_0 rfl ?_
    first | refine g_ifB_ne (tgt := 6) d_Co_unlikeFrom_1 (by decide) (fun hb_1 => ?_) (fun hb_1 => ?_) | refine g_ifN_ne (tgt := 6) d_Co_unlikeFrom_1 (by decide) (by omega) (fun hb_1 => ?_) (fun hb_1 => ?_)
    · refine g_iload_n d_Co_unlikeFrom_6 rfl ?_
      refine g_iconst (v := nI 4) d_Co_unlikeFrom_7 (by decide) ?_
      refine g_icmpN_lt (tgt := 25) d_Co_unlikeFrom_8 (by decide) (by omega) (by omega) (fun hb_8 => ?_) (fun hb_8 => ?_)
      · refine g_aload_n d_Co_unlikeFrom_25 rfl ?_
        refine g_get f_Co_20 (by assumption) rfl d_Co_unlikeFrom_26 ?_
        refine g_iload_n d_Co_unlikeFrom_29 rfl ?_
        refine g_aald f (by assumption) rfl rfl rfl hf4 (by decide) (h3 f hf4) d_Co_unlikeFrom_30 ?_
        refine g_astore_n d_Co_unlikeFrom_31 (by decide) ?_
        refine g_iconst (v := nI 0) d_Co_unlikeFrom_32 (by decide) ?_
        refine g_istore d_Co_unlikeFrom_33 (by decide) ?_
        refine g_iconst (v := nI 0) d_Co_unlikeFrom_35 (by decide) ?_
        refine g_istore d_Co_unlikeFrom_36 (by decide) ?_
        refine g_iconst (v := nI 0) d_Co_unlikeFrom_38 (by decide) ?_
        refine g_istore d_Co_unlikeFrom_39 (by decide) ?_
        refine g_iconst (v := nI 0) d_Co_unlikeFrom_41 (by decide) ?_
        refine g_istore d_Co_unlikeFrom_42 (by decide) ?_
        refine g_for (P := fun i => ∀ (la u : Nat) (y : Option Value), la < 65536 → u = ul r1 m1 r2 m2 k la → G _ _ _ _ _ _ _ _ _ _ _ _ 44 [some (.ref C), some (.int (nI f)), some (.int (nI s)), some (.ref (C + 2 + 3 * f)), some (.int (nI (sm (fun r => ul r1 m1 r2 m2 k (s &&& ct f r) * (enr (cs f) (cn f) (mst f + 1) r - cs f r)) i))), some (.int (nI la)), some (.int (nI u)), some (.int (nI i)), y] [] N M 0 0) (e := cn f) ?_ ?_ 0 (by omega) 0 0 none (by omega) (ul_zero _ _ _ _ k).symm
        · intro la u y hla hu
          refine g_iload d_Co_unlikeFrom_44 rfl ?_
          refine g_aload_n d_Co_unlikeFrom_46 rfl ?_
          refine g_callV s_Co_61 sv_Cu_size (by assumption) rfl (g_of_val (k_Cu_size hcu)) (by omega) rfl (by omega) (by omega) rfl (Nat.le_of_ble_eq_true rfl) d_Co_unlikeFrom_47 ?_
          rintro _ _ _ ⟨rfl, rfl, rfl⟩
          refine g_icmpN_ge (tgt := 105) d_Co_unlikeFrom_50 (by decide) (by omega) (by omega) (fun hb_50 => ?_) (fun hb_50 => ?_)
          · refine g_iload d_Co_unlikeFrom_105 rfl ?_
            refine g_eqi (z := nI (ul r1 m1 r2 m2 (k + 1) s)) (by subst hf; exact congrArg nI (ul_rows hco s)) ?_
            exact g_ireturn rfl (by first | rfl | exact bI_nar _) (by omega) (by omega) d_Co_unlikeFrom_107 ⟨rfl, rfl, rfl⟩
          · omega
        · intro i hi ihi la u y hla hu
          have hok : s_ok m1 m2 k (s &&& ct f i) := s_ok.and hco hA.2.1 hi hs1
          have hrl := hok.1
          refine g_iload d_Co_unlikeFrom_44 rfl ?_
          refine g_aload_n d_Co_unlikeFrom_46 rfl ?_
          refine g_callV s_Co_61 sv_Cu_size (by assumption) rfl (g_of_val (k_Cu_size hcu)) (by omega) rfl (by omega) (by omega) rfl (Nat.le_of_ble_eq_true rfl) d_Co_unlikeFrom_47 ?_
          rintro _ _ _ ⟨rfl, rfl, rfl⟩
          refine g_icmpN_ge (tgt := 105) d_Co_unlikeFrom_50 (by decide) (by omega) (by omega) (fun hb_50 => ?_) (fun hb_50 => ?_)
          · omega
          refine g_iload_n d_Co_unlikeFrom_53 rfl ?_
          refine g_aload_n d_Co_unlikeFrom_54 rfl ?_
          refine g_iload d_Co_unlikeFrom_55 rfl ?_
          refine g_callV s_Co_58 sv_Cu_set (by assumption) rfl (g_of_val (k_Cu_set hcu i hi)) (by omega) rfl (by omega) (by omega) rfl (Nat.le_of_ble_eq_true rfl) d_Co_unlikeFrom_57 ?_
          rintro _ _ _ ⟨rfl, rfl, rfl⟩
          refine g_iand d_Co_unlikeFrom_60 ?_
          refine g_eqi (nI_and _ _) ?_
          refine g_istore d_Co_unlikeFrom_61 (by decide) ?_
          refine g_iload d_Co_unlikeFrom_63 rfl ?_
          refine g_iload d_Co_unlikeFrom_65 rfl ?_
          refine g_icmpN_eq (tgt := 85) d_Co_unlikeFrom_67 (by decide) (by omega) (by omega) (fun hb_67 => ?_) (fun hb_67 => ?_)
          · refine g_iload d_Co_unlikeFrom_85 rfl ?_
            refine g_iload d_Co_unlikeFrom_87 rfl ?_
            refine g_aload_n d_Co_unlikeFrom_89 rfl ?_
            refine g_iload d_Co_unlikeFrom_90 rfl ?_
            refine g_callV s_Co_68 sv_Cu_width (by assumption) rfl (g_of_val (k_Cu_width hcu i hi)) (by omega) rfl (by omega) (by omega) rfl (Nat.le_of_ble_eq_true rfl) d_Co_unlikeFrom_92 ?_
            rintro _ _ _ ⟨rfl, rfl, rfl⟩
            refine g_imul d_Co_unlikeFrom_95 ?_
            refine g_eqi (pk_mul _ _) ?_
            refine g_iadd d_Co_unlikeFrom_96 ?_
            refine g_eqi (nI_add _ _) ?_
            refine g_istore d_Co_unlikeFrom_97 (by decide) ?_
            refine g_iinc1 d_Co_unlikeFrom_99 rfl (by decide) ?_
            refine g_goto (tgt := 44) d_Co_unlikeFrom_102 (by decide) ?_
            have := fun y => ihi la u y hla hu
            rw [show sm (fun r => ul r1 m1 r2 m2 k (s &&& ct f r) * (enr (cs f) (cn f) (mst f + 1) r - cs f r)) (i + 1) = sm (fun r => ul r1 m1 r2 m2 k (s &&& ct f r) * (enr (cs f) (cn f) (mst f + 1) r - cs f r)) i + ul r1 m1 r2 m2 k (s &&& ct f i) * (enr (cs f) (cn f) (mst f + 1) i - cs f i) from rfl, hb_67, ← hu] at this
            exact this _
          · refine g_iload d_Co_unlikeFrom_70 rfl ?_
            refine g_istore d_Co_unlikeFrom_72 (by decide) ?_
            refine g_aload_n d_Co_unlikeFrom_74 rfl ?_
            refine g_iload_n d_Co_unlikeFrom_75 rfl ?_
            refine g_iconst (v := nI 1) d_Co_unlikeFrom_76 (by decide) ?_
            refine g_iadd d_Co_unlikeFrom_77 ?_
            refine g_eqi (nI_add _ _) ?_
            refine g_iload d_Co_unlikeFrom_78 rfl ?_
            refine g_callS s_Co_42 sv_Co_unlikeFrom (g_of_val (ih (by omega) (s &&& ct f i) hok)) (by omega) rfl (by omega) (by omega) rfl (Nat.le_of_ble_eq_true rfl) d_Co_unlikeFrom_80 ?_
            rintro _ _ _ ⟨rfl, rfl, rfl⟩
            refine g_istore d_Co_unlikeFrom_83 (by decide) ?_
            refine g_iload d_Co_unlikeFrom_85 rfl ?_
            refine g_iload d_Co_unlikeFrom_87 rfl ?_
            refine g_aload_n d_Co_unlikeFrom_89 rfl ?_
            refine g_iload d_Co_unlikeFrom_90 rfl ?_
            refine g_callV s_Co_68 sv_Cu_width (by assumption) rfl (g_of_val (k_Cu_width hcu i hi)) (by omega) rfl (by omega) (by omega) rfl (Nat.le_of_ble_eq_true rfl) d_Co_unlikeFrom_92 ?_
            rintro _ _ _ ⟨rfl, rfl, rfl⟩
            refine g_imul d_Co_unlikeFrom_95 ?_
            refine g_eqi (pk_mul _ _) ?_
            refine g_iadd d_Co_unlikeFrom_96 ?_
            refine g_eqi (nI_add _ _) ?_
            refine g_istore d_Co_unlikeFrom_97 (by decide) ?_
            refine g_iinc1 d_Co_unlikeFrom_99 rfl (by decide) ?_
            refine g_goto (tgt := 44) d_Co_unlikeFrom_102 (by decide) ?_
            exact ihi (s &&& ct f i) _ _ hrl rfl
      · omega
    · refine g_iconst (v := nI 0) d_Co_unlikeFrom_4 (by decide) ?_
      refine g_eqi (z := nI (ul r1 m1 r2 m2 (k + 1) s)) (by rw [hb_1, ul_zero]) ?_
      exact g_ireturn rfl (by first | rfl | exact bI_nar _) (by omega) (by omega) d_Co_unlikeFrom_5 ⟨rfl, rfl, rfl⟩
theorem k_Co_unlikePackets (h : o_co E M C q1 q2) (hA : o_list E M q1 m1 r1) (hB : o_list E M q2 m2 r2) (hC : o_cC E M C cn cs ct) (hc : ∀ f, f < 4 → cut2_ok r1 m1 r2 m2 f (cn f) (cs f) (ct f)) : Ctr l E y_Co_unlikePackets 9 [.ref C] N M 0 0 (g_val (some (.int (nI (ul r1 m1 r2 m2 4 65535)))) N M) := by
  refine ctr_of [some (.ref C)] (by decide) w_274 rfl rfl (Nat.le_of_ble_eq_true rfl) (fun Γ => ?_)
  refine g_aload_n d_Co_unlikePackets_0 rfl ?_
  refine g_iconst (v := nI 0) d_Co_unlikePackets_1 (by decide) ?_
  refine g_callS s_Co_38 sv_Co_everyRule (g_of_val (k_Co_everyRule)) (by omega) rfl (by omega) (by omega) rfl (Nat.le_of_ble_eq_true rfl) d_Co_unlikePackets_2 ?_
  rintro _ _ _ ⟨rfl, rfl, rfl⟩
  refine g_callS s_Co_42 sv_Co_unlikeFrom (g_of_val (k_Co_unlikeFrom h hA hB hC hc 4 (by omega) 65535 ⟨by omega, fun q => by omega⟩)) (by omega) rfl (by omega) (by omega) rfl (Nat.le_of_ble_eq_true rfl) d_Co_unlikePackets_5 ?_
  rintro _ _ _ ⟨rfl, rfl, rfl⟩
  exact g_ireturn rfl (by first | rfl | exact bI_nar _) (by omega) (by omega) d_Co_unlikePackets_8 ⟨rfl, rfl, rfl⟩
theorem k_Co_firstUnlikeRow (h : o_co E M C q1 q2) (hA : o_list E M q1 m1 r1) (hB : o_list E M q2 m2 r2) (hC : o_cC E M C cn cs ct) (hc : ∀ f, f < 4 → cut2_ok r1 m1 r2 m2 f (cn f) (cs f) (ct f)) (f s : Nat) (hf : f < 4) (hs : s < 65536) : Ctr l E y_Co_firstUnlikeRow 9 [.ref C, .int (nI f), .int (nI s)] N M 0 0 (g_val (some (.int (fI (fi (fun r => decide (0 < ul r1 m1 r2 m2 (3 - f) (s &&& ct f r))) (cn f)) (cn f)))) N M) := by
  have h0 := h
  obtain ⟨h1, fa, h2, h3⟩ := h
  have hcu := hC f hf
  have hcua := hcu.1
  have hn := hcu.2.2.1
  refine ctr_of [some (.ref C), some (.int (nI f)), some (.int (nI s)), none] (by decide) w_833 rfl rfl (Nat.le_of_ble_eq_true rfl) (fun Γ => ?_)
  refine g_iconst (v := nI 0) d_Co_firstUnlikeRow_0 (by decide) ?_
  refine g_istore_n d_Co_firstUnlikeRow_1 (by decide) ?_
  refine g_for (P := fun i => (∀ j, j < i → decide (0 < ul r1 m1 r2 m2 (3 - f) (s &&& ct f j)) = false) → G _ _ _ _ _ _ _ _ _ _ _ _ 2 [some (.ref C), some (.int (nI f)), some (.int (nI s)), some (.int (nI i))] [] N M 0 0) (e := cn f) ?_ ?_ 0 (by omega) (fun j hj => by omega)
  · intro hno
    refine g_iload_n d_Co_firstUnlikeRow_2 rfl ?_
    refine g_aload_n d_Co_firstUnlikeRow_3 rfl ?_
    refine g_get f_Co_20 (by assumption) rfl d_Co_firstUnlikeRow_4 ?_
    refine g_iload_n d_Co_firstUnlikeRow_7 rfl ?_
    refine g_aald f (by assumption) rfl rfl rfl hf (by decide) (h3 f hf) d_Co_firstUnlikeRow_8 ?_
    refine g_callV s_Co_61 sv_Cu_size (by assumption) rfl (g_of_val (k_Cu_size hcu)) (by omega) rfl (by omega) (by omega) rfl (Nat.le_of_ble_eq_true rfl) d_Co_firstUnlikeRow_9 ?_
    rintro _ _ _ ⟨rfl, rfl, rfl⟩
    refine g_icmpN_ge (tgt := 45) d_Co_firstUnlikeRow_12 (by decide) (by omega) (by omega) (fun hb_12 => ?_) (fun hb_12 => ?_)
    · refine g_iconst (v := -1) d_Co_firstUnlikeRow_45 (by decide) ?_
      refine g_eqi (z := fI (fi (fun r => decide (0 < ul r1 m1 r2 m2 (3 - f) (s &&& ct f r))) (cn f)) (cn f)) (by rw [fi_none hno]; unfold fI; rw [if_neg (by omega)]) ?_
      exact g_ireturn rfl (by first | rfl | exact bI_nar _) (by omega) (by omega) d_Co_firstUnlikeRow_46 ⟨rfl, rfl, rfl⟩
    · omega
  · intro i hi ih hno
    have hok : s_ok m1 m2 (3 - f) (s &&& ct f i) := s_ok.and (hc f hf) hA.2.1 hi hs
    have hul := ul_le r1 m1 r2 m2 (3 - f) (s &&& ct f i)
    have hpr := pr2_le (3 - f) (by omega)
    have hcall := fun (N : Nat) => k_Co_unlikeFrom (l := l) (N := N) h0 hA hB hC hc (3 - f) (by omega) (s &&& ct f i) hok
    rw [show 4 - (3 - f) = f + 1 by omega] at hcall
    refine g_iload_n d_Co_firstUnlikeRow_2 rfl ?_
    refine g_aload_n d_Co_firstUnlikeRow_3 rfl ?_
    refine g_get f_Co_20 (by assumption) rfl d_Co_firstUnlikeRow_4 ?_
    refine g_iload_n d_Co_firstUnlikeRow_7 rfl ?_
    refine g_aald f (by assumption) rfl rfl rfl hf (by decide) (h3 f hf) d_Co_firstUnlikeRow_8 ?_
    refine g_callV s_Co_61 sv_Cu_size (by assumption) rfl (g_of_val (k_Cu_size hcu)) (by omega) rfl (by omega) (by omega) rfl (Nat.le_of_ble_eq_true rfl) d_Co_firstUnlikeRow_9 ?_
    rintro _ _ _ ⟨rfl, rfl, rfl⟩
    refine g_icmpN_ge (tgt := 45) d_Co_firstUnlikeRow_12 (by decide) (by omega) (by omega) (fun hb_12 => ?_) (fun hb_12 => ?_)
    · omega
    refine g_aload_n d_Co_firstUnlikeRow_15 rfl ?_
    refine g_iload_n d_Co_firstUnlikeRow_16 rfl ?_
    refine g_iconst (v := nI 1) d_Co_firstUnlikeRow_17 (by decide) ?_
    refine g_iadd d_Co_firstUnlikeRow_18 ?_
    refine g_eqi (nI_add _ _) ?_
    refine g_iload_n d_Co_firstUnlikeRow_19 rfl ?_
    refine g_aload_n d_Co_firstUnlikeRow_20 rfl ?_
    refine g_get f_Co_20 (by assumption) rfl d_Co_firstUnlikeRow_21 ?_
    refine g_iload_n d_Co_firstUnlikeRow_24 rfl ?_
    refine g_aald f (by assumption) rfl rfl rfl hf (by decide) (h3 f hf) d_Co_firstUnlikeRow_25 ?_
    refine g_iload_n d_Co_firstUnlikeRow_26 rfl ?_
    refine g_callV s_Co_58 sv_Cu_set (by assumption) rfl (g_of_val (k_Cu_set hcu i hi)) (by omega) rfl (by omega) (by omega) rfl (Nat.le_of_ble_eq_true rfl) d_Co_firstUnlikeRow_27 ?_
    rintro _ _ _ ⟨rfl, rfl, rfl⟩
    refine g_iand d_Co_firstUnlikeRow_30 ?_
    refine g_eqi (nI_and _ _) ?_
    refine g_callS s_Co_42 sv_Co_unlikeFrom (g_of_val (hcall _)) (by omega) rfl (by omega) (by omega) rfl (Nat.le_of_ble_eq_true rfl) d_Co_firstUnlikeRow_31 ?_
    rintro _ _ _ ⟨rfl, rfl, rfl⟩
    refine g_ifN_le (tgt := 39) d_Co_firstUnlikeRow_34 (by decide) (by omega) (fun hb_34 => ?_) (fun hb_34 => ?_)
    · refine g_iinc1 d_Co_firstUnlikeRow_39 rfl (by decide) ?_
      refine g_goto (tgt := 2) d_Co_firstUnlikeRow_42 (by decide) ?_
      refine ih (fun j hj => ?_)
      by_cases e : j = i
      · rw [e]; exact decide_eq_false (by omega)
      · exact hno j (by omega)
    · refine g_iload_n d_Co_firstUnlikeRow_37 rfl ?_
      refine g_eqi (z := fI (fi (fun r => decide (0 < ul r1 m1 r2 m2 (3 - f) (s &&& ct f r))) (cn f)) (cn f)) (by rw [fi_at hi (decide_eq_true (by omega)) hno]; unfold fI; rw [if_pos hi]) ?_
      exact g_ireturn rfl (by first | rfl | exact bI_nar _) (by omega) (by omega) d_Co_firstUnlikeRow_38 ⟨rfl, rfl, rfl⟩
/-- the first row in which they are unlike starts at the first such value -/
theorem first_row {f n s k : Nat} {st ss : Nat → Nat} (h : cut2_ok r1 m1 r2 m2 f n st ss) :
    (fi (fun r => decide (0 < ul r1 m1 r2 m2 k (s &&& ss r))) n < n → st (fi (fun r => decide (0 < ul r1 m1 r2 m2 k (s &&& ss r))) n) = fi (fun x => decide (0 < ul r1 m1 r2 m2 k (s &&& ag2 r1 m1 r2 m2 f x))) (mst f + 1) ∧ fi (fun x => decide (0 < ul r1 m1 r2 m2 k (s &&& ag2 r1 m1 r2 m2 f x))) (mst f + 1) < mst f + 1 ∧ ss (fi (fun r => decide (0 < ul r1 m1 r2 m2 k (s &&& ss r))) n) = ag2 r1 m1 r2 m2 f (fi (fun x => decide (0 < ul r1 m1 r2 m2 k (s &&& ag2 r1 m1 r2 m2 f x))) (mst f + 1))) ∧
    (¬ fi (fun r => decide (0 < ul r1 m1 r2 m2 k (s &&& ss r))) n < n → ¬ fi (fun x => decide (0 < ul r1 m1 r2 m2 k (s &&& ag2 r1 m1 r2 m2 f x))) (mst f + 1) < mst f + 1) := by
  have hsp := fi_spec (fun r => decide (0 < ul r1 m1 r2 m2 k (s &&& ss r))) n
  have hle := fi_le (fun r => decide (0 < ul r1 m1 r2 m2 k (s &&& ss r))) n
  generalize fi (fun r => decide (0 < ul r1 m1 r2 m2 k (s &&& ss r))) n = r at hsp hle ⊢
  have hval : ∀ x, x < mst f + 1 → ∃ j, j < n ∧ st j ≤ x ∧ x < enr st n (mst f + 1) j ∧ ag2 r1 m1 r2 m2 f x = ss j := by
    intro x hx
    obtain ⟨j, j1, j2, j3⟩ := rows_find h.1 hx
    exact ⟨j, j1, j2, j3, h.2 j j1 x j2 j3⟩
  constructor
  · intro hr
    have hse : ag2 r1 m1 r2 m2 f (st r) = ss r := h.2 r hr (st r) (Nat.le_refl _) (rows_lt h.1 hr)
    have htop : st r < mst f + 1 := by
      have h3 := h.1.2.2.2
      by_cases e : r = n - 1
      · rw [e]; exact h3
      · have := rows_mono h.1 (i := r) (j := n - 1) (by omega) (by omega)
        omega
    have e : fi (fun x => decide (0 < ul r1 m1 r2 m2 k (s &&& ag2 r1 m1 r2 m2 f x))) (mst f + 1) = st r := by
      refine fi_at htop (by show decide _ = true; rw [hse]; exact hsp.2 hr) (fun x hx => ?_)
      obtain ⟨j, j1, j2, j3, j4⟩ := hval x (by omega)
      show decide _ = false
      rw [j4]
      refine hsp.1 j ?_
      rcases Nat.lt_or_ge j r with c | c
      · exact c
      · exfalso
        by_cases e2 : j = r
        · rw [e2] at j2; omega
        · have := rows_mono h.1 (i := r) (j := j) (by omega) j1
          omega
    rw [e]
    exact ⟨rfl, htop, hse.symm⟩
  · intro hr hx
    have h2 := (fi_spec (fun x => decide (0 < ul r1 m1 r2 m2 k (s &&& ag2 r1 m1 r2 m2 f x))) (mst f + 1)).2 hx
    obtain ⟨j, j1, j2, j3, j4⟩ := hval _ hx
    simp only [j4] at h2
    rw [hsp.1 j (by omega)] at h2
    cases h2
/-- the first packet whose verdicts are unlike, field by field -/
def fux (r1 : Nat → Rl) (m1 : Nat) (r2 : Nat → Rl) (m2 : Nat) : Nat → Nat → Nat → Option Nat
  | 0, p, _ => some p
  | k + 1, p, s => if fi (fun x => decide (0 < ul r1 m1 r2 m2 k (s &&& ag2 r1 m1 r2 m2 (3 - k) x))) (mst (3 - k) + 1) < mst (3 - k) + 1 then fux r1 m1 r2 m2 k (p ||| fi (fun x => decide (0 < ul r1 m1 r2 m2 k (s &&& ag2 r1 m1 r2 m2 (3 - k) x))) (mst (3 - k) + 1) * 2 ^ shf (3 - k)) (s &&& ag2 r1 m1 r2 m2 (3 - k) (fi (fun x => decide (0 < ul r1 m1 r2 m2 k (s &&& ag2 r1 m1 r2 m2 (3 - k) x))) (mst (3 - k) + 1))) else none
def oI : Option Nat → Int32
  | some p => nI p
  | none => -1
theorem shf_lim : ∀ f, f < 4 → shf f < 32 ∧ (mst f + 1) * 2 ^ shf f ≤ 2 ^ 28 := by decide
theorem k_Co_firstUnlike (h : o_co E M C q1 q2) (hA : o_list E M q1 m1 r1) (hB : o_list E M q2 m2 r2) (hC : o_cC E M C cn cs ct) (hc : ∀ f, f < 4 → cut2_ok r1 m1 r2 m2 f (cn f) (cs f) (ct f)) : Ctr l E y_Co_firstUnlike 10 [.ref C] N M 0 0 (g_val (some (.int (oI (fux r1 m1 r2 m2 4 0 65535)))) N M) := by
  have h0 := h
  obtain ⟨h1, fa, h2, h3⟩ := h
  obtain ⟨X, hX⟩ : ∃ X, X = fux r1 m1 r2 m2 4 0 65535 := ⟨_, rfl⟩
  rw [← hX]
  refine ctr_of [some (.ref C), none, none, none, none] (by decide) w_829 rfl rfl (Nat.le_of_ble_eq_true rfl) (fun Γ => ?_)
  refine g_iconst (v := nI 0) d_Co_firstUnlike_0 (by decide) ?_
  refine g_istore_n d_Co_firstUnlike_1 (by decide) ?_
  refine g_callS s_Co_38 sv_Co_everyRule (g_of_val (k_Co_everyRule)) (by omega) rfl (by omega) (by omega) rfl (Nat.le_of_ble_eq_true rfl) d_Co_firstUnlike_2 ?_
  rintro _ _ _ ⟨rfl, rfl, rfl⟩
  refine g_istore_n d_Co_firstUnlike_5 (by decide) ?_
  refine g_iconst (v := nI 0) d_Co_firstUnlike_6 (by decide) ?_
  refine g_istore_n d_Co_firstUnlike_7 (by decide) ?_
  refine g_for (P := fun f => ∀ (p s : Nat) (y : Option Value), s < 65536 → X = fux r1 m1 r2 m2 (4 - f) p s → G _ _ _ _ _ _ _ _ _ _ _ _ 8 [some (.ref C), some (.int (nI p)), some (.int (nI s)), some (.int (nI f)), y] [] N M 0 0) (e := 4) ?_ ?_ 0 (by omega) 0 65535 none (by omega) hX
  · intro p s y hs he
    refine g_iload_n d_Co_firstUnlike_8 rfl ?_
    refine g_iconst (v := nI 4) d_Co_firstUnlike_9 (by decide) ?_
    refine g_icmpN_ge (tgt := 69) d_Co_firstUnlike_10 (by decide) (by omega) (by omega) (fun hb_10 => ?_) (fun hb_10 => ?_)
    · refine g_iload_n d_Co_firstUnlike_69 rfl ?_
      refine g_eqi (z := oI X) (by rw [he]; rfl) ?_
      exact g_ireturn rfl (by first | rfl | exact bI_nar _) (by omega) (by omega) d_Co_firstUnlike_70 ⟨rfl, rfl, rfl⟩
    · omega
  · intro f hf ih p s y hs he
    clear hX
    have hcu := hC f hf
    have hcua := hcu.1
    have hn := hcu.2.2.1
    have hlim := shf_lim f hf
    refine g_iload_n d_Co_firstUnlike_8 rfl ?_
    refine g_iconst (v := nI 4) d_Co_firstUnlike_9 (by decide) ?_
    refine g_icmpN_ge (tgt := 69) d_Co_firstUnlike_10 (by decide) (by omega) (by omega) (fun hb_10 => ?_) (fun hb_10 => ?_)
    · omega
    refine g_aload_n d_Co_firstUnlike_13 rfl ?_
    refine g_iload_n d_Co_firstUnlike_14 rfl ?_
    refine g_iload_n d_Co_firstUnlike_15 rfl ?_
    refine g_callV s_Co_46 sv_Co_firstUnlikeRow (by assumption) rfl (g_of_val (k_Co_firstUnlikeRow h0 hA hB hC hc f s hf hs)) (by omega) rfl (by omega) (by omega) rfl (Nat.le_of_ble_eq_true rfl) d_Co_firstUnlike_16 ?_
    rintro _ _ _ ⟨rfl, rfl, rfl⟩
    refine g_istore d_Co_firstUnlike_19 (by decide) ?_
    refine g_iload d_Co_firstUnlike_21 rfl ?_
    refine g_iconst (v := -1) d_Co_firstUnlike_23 (by decide) ?_
    have hfr := first_row (s := s) (k := 3 - f) (hc f hf)
    generalize hr : fi (fun r => decide (0 < ul r1 m1 r2 m2 (3 - f) (s &&& ct f r))) (cn f) = r at hfr ⊢
    generalize hx : fi (fun x => decide (0 < ul r1 m1 r2 m2 (3 - f) (s &&& ag2 r1 m1 r2 m2 f x))) (mst f + 1) = x at hfr
    have e4 : fux r1 m1 r2 m2 (4 - f) p s = if x < mst f + 1 then fux r1 m1 r2 m2 (3 - f) (p ||| x * 2 ^ shf f) (s &&& ag2 r1 m1 r2 m2 f x) else none := by
      obtain ⟨k, hk⟩ : ∃ k, k = 3 - f := ⟨_, rfl⟩
      rw [← hk] at hx ⊢
      have e3 : 3 - k = f := by omega
      rw [show 4 - f = k + 1 by omega]
      conv => lhs; unfold fux
      rw [e3, hx]
    by_cases hrn : r < cn f
    · obtain ⟨s1, s2, s3⟩ := hfr.1 hrn
      rw [show fI r (cn f) = nI r from if_pos hrn]
      have hxl : x * 2 ^ shf f < 2 ^ 28 := Nat.lt_of_lt_of_le (Nat.mul_lt_mul_of_pos_right s2 (Nat.two_pow_pos _)) hlim.2
      refine g_icmp_ne (tgt := 29) d_Co_firstUnlike_24 (by decide) (fun hb => ?_) (fun hb => absurd (congrArg Int32.toInt hb) (by rw [nI_toInt (by omega)]; show ¬ ((r : Nat) : Int) = -1; omega))
      refine g_iload_n d_Co_firstUnlike_29 rfl ?_
      refine g_aload_n d_Co_firstUnlike_30 rfl ?_
      refine g_get f_Co_20 (by assumption) rfl d_Co_firstUnlike_31 ?_
      refine g_iload_n d_Co_firstUnlike_34 rfl ?_
      refine g_aald f (by assumption) rfl rfl rfl hf (by decide) (h3 f hf) d_Co_firstUnlike_35 ?_
      refine g_iload d_Co_firstUnlike_36 rfl ?_
      refine g_callV s_Co_50 sv_Cu_start (by assumption) rfl (g_of_val (k_Cu_start hcu r hrn)) (by omega) rfl (by omega) (by omega) rfl (Nat.le_of_ble_eq_true rfl) d_Co_firstUnlike_38 ?_
      rintro _ _ _ ⟨rfl, rfl, rfl⟩
      refine g_getsN z_SHIFTS fn_Co_54 d_Co_firstUnlike_41 ?_
      refine g_iload_n d_Co_firstUnlike_44 rfl ?_
      refine g_tald f q_SHIFTS rfl hf (by decide) d_Co_firstUnlike_45 ?_
      refine g_ishl d_Co_firstUnlike_46 ?_
      refine g_eqi (z := nI (x * 2 ^ shf f)) (by rw [s1]; exact nI_shl hlim.1 (by show x * 2 ^ shf f < 2 ^ 32; omega)) ?_
      refine g_ior d_Co_firstUnlike_47 ?_
      refine g_eqi (nI_or _ _) ?_
      refine g_istore_n d_Co_firstUnlike_48 (by decide) ?_
      refine g_iload_n d_Co_firstUnlike_49 rfl ?_
      refine g_aload_n d_Co_firstUnlike_50 rfl ?_
      refine g_get f_Co_20 (by assumption) rfl d_Co_firstUnlike_51 ?_
      refine g_iload_n d_Co_firstUnlike_54 rfl ?_
      refine g_aald f (by assumption) rfl rfl rfl hf (by decide) (h3 f hf) d_Co_firstUnlike_55 ?_
      refine g_iload d_Co_firstUnlike_56 rfl ?_
      refine g_callV s_Co_58 sv_Cu_set (by assumption) rfl (g_of_val (k_Cu_set hcu r hrn)) (by omega) rfl (by omega) (by omega) rfl (Nat.le_of_ble_eq_true rfl) d_Co_firstUnlike_58 ?_
      rintro _ _ _ ⟨rfl, rfl, rfl⟩
      refine g_iand d_Co_firstUnlike_61 ?_
      refine g_eqi (nI_and _ _) ?_
      refine g_istore_n d_Co_firstUnlike_62 (by decide) ?_
      refine g_iinc1 d_Co_firstUnlike_63 rfl (by decide) ?_
      refine g_goto (tgt := 8) d_Co_firstUnlike_66 (by decide) ?_
      refine ih (p ||| x * 2 ^ shf f) (s &&& ct f r) _ (Nat.lt_of_le_of_lt Nat.and_le_left hs) ?_
      rw [he, e4, if_pos s2, show 4 - (f + 1) = 3 - f by omega, s3]
    · rw [show fI r (cn f) = -1 from if_neg hrn]
      have e5 : X = none := by rw [he, e4, if_neg (hfr.2 hrn)]
      rw [e5]
      refine g_icmp_ne (tgt := 29) d_Co_firstUnlike_24 (by decide) (fun hb => absurd rfl hb) (fun hb => ?_)
      refine g_iconst (v := -1) d_Co_firstUnlike_27 (by decide) ?_
      exact g_ireturn rfl (by first | rfl | exact bI_nar _) (by omega) (by omega) d_Co_firstUnlike_28 ⟨rfl, rfl, rfl⟩
theorem k_Co_compile (h : o_co E M C q1 q2) (hA : o_list E M q1 m1 r1) (hB : o_list E M q2 m2 r2) (h1 : q1 + 25 < C) (h2 : q2 + 25 < C) (hC : o_cC E M C cn cs ct) : Ctr l E y_Co_compile 3 [.ref C] N M 0 0 (g_ret (fun v N' M' => v = none ∧ N' = N ∧ (∃ cn' cs' ct', o_cC E M' C cn' cs' ct' ∧ ∀ f, f < 4 → cut2_ok r1 m1 r2 m2 f (cn' f) (cs' f) (ct' f)) ∧ ∀ x, (x < C + 2 ∨ C + 13 < x) → M' x = M x)) := by
  have hm1 := hA.2.1
  have hm2 := hB.2.1
  refine ctr_of [some (.ref C), none] (by decide) w_219 rfl rfl (Nat.le_of_ble_eq_true rfl) (fun Γ => ?_)
  refine g_iconst (v := nI 0) d_Co_compile_0 (by decide) ?_
  refine g_istore_n d_Co_compile_1 (by decide) ?_
  refine g_for (P := fun i => ∀ (M2 : gM) (cn2 : Nat → Nat) (cs2 ct2 : Nat → Nat → Nat), o_cC E M2 C cn2 cs2 ct2 → (∀ f, f < i → cut2_ok r1 m1 r2 m2 f (cn2 f) (cs2 f) (ct2 f)) → (∀ x, (x < C + 2 ∨ C + 13 < x) → M2 x = M x) → G _ _ _ _ _ _ _ _ _ _ _ _ 2 [some (.ref C), some (.int (nI i))] [] N M2 0 0) (e := 4) ?_ ?_ 0 (by omega) M cn cs ct hC (fun f hf => by omega) (fun _ _ => rfl)
  · intro M2 cn2 cs2 ct2 hC2 hok hfr
    refine g_iload_n d_Co_compile_2 rfl ?_
    refine g_iconst (v := nI 4) d_Co_compile_3 (by decide) ?_
    refine g_icmpN_ge (tgt := 77) d_Co_compile_4 (by decide) (by omega) (by omega) (fun hb_4 => ?_) (fun hb_4 => ?_)
    · exact g_return rfl (by omega) (by omega) d_Co_compile_77 ⟨_, rfl, rfl, rfl, ⟨cn2, cs2, ct2, hC2, hok⟩, hfr⟩
    · omega
  · intro i hi ih M2 cn2 cs2 ct2 hC2 hok hfr
    obtain ⟨g1, fa2, g2, g3⟩ := h.kept (M' := M2) (fun x hx => hfr x (by omega))
    have hA2 := hA.kept (M' := M2) (fun x _ _ => hfr x (by omega))
    have hB2 := hB.kept (M' := M2) (fun x _ _ => hfr x (by omega))
    have hcu := hC2 i hi
    have hcua := hcu.1
    refine g_iload_n d_Co_compile_2 rfl ?_
    refine g_iconst (v := nI 4) d_Co_compile_3 (by decide) ?_
    refine g_icmpN_ge (tgt := 77) d_Co_compile_4 (by decide) (by omega) (by omega) (fun hb_4 => ?_) (fun hb_4 => ?_)
    · omega
    refine g_aload_n d_Co_compile_7 rfl ?_
    refine g_get f_Co_20 (by assumption) rfl d_Co_compile_8 ?_
    refine g_iload_n d_Co_compile_11 rfl ?_
    refine g_aald i (by assumption) rfl rfl rfl hi (by decide) (g3 i hi) d_Co_compile_12 ?_
    refine g_callV s_Co_27 sv_Cu_clear (by assumption) rfl (k_Cu_clear hcu) (by omega) rfl (by omega) (by omega) rfl (Nat.le_of_ble_eq_true rfl) d_Co_compile_13 ?_
    rintro v' N' M3 ⟨rfl, rfl, hc3, hf3⟩
    have hc3a := hc3.1
    have g1' := (hf3 C (by omega) (by omega)).trans g1
    have g2' := (hf3 (C + 1) (by omega) (by omega)).trans g2
    have hA3 := hA2.kept (M' := M3) (fun x _ _ => hf3 x (by omega) (by omega))
    have hB3 := hB2.kept (M' := M3) (fun x _ _ => hf3 x (by omega) (by omega))
    have hlen := (cfn_ok (rs := r1) (c := (1, cs2 i)) hc3.2.2.2.2.1 m1).2
    refine g_aload_n d_Co_compile_16 rfl ?_
    refine g_get f_Co_20 (by assumption) rfl d_Co_compile_17 ?_
    refine g_iload_n d_Co_compile_20 rfl ?_
    refine g_aald i (by assumption) rfl rfl rfl hi (by decide) (g3 i hi) d_Co_compile_21 ?_
    refine g_aload_n d_Co_compile_22 rfl ?_
    refine g_get f_Co_9 (by assumption) rfl d_Co_compile_23 ?_
    refine g_callV s_Co_30 sv_Cu_cutBy (by assumption) rfl (k_Cu_cutBy hc3 hA3 (by omega) (by omega)) (by omega) rfl (by omega) (by omega) rfl (Nat.le_of_ble_eq_true rfl) d_Co_compile_26 ?_
    rintro v' N' M4 ⟨rfl, rfl, hc4, hf4⟩
    have hc4a := hc4.1
    have g1'' := (hf4 C (by omega) (by omega)).trans g1'
    have g2'' := (hf4 (C + 1) (by omega) (by omega)).trans g2'
    have hA4 := hA3.kept (M' := M4) (fun x _ _ => hf4 x (by omega) (by omega))
    have hB4 := hB3.kept (M' := M4) (fun x _ _ => hf4 x (by omega) (by omega))
    generalize hcf : cfn r1 i (1, cs2 i) m1 = c4 at hc4 hc4a hlen
    refine g_aload_n d_Co_compile_29 rfl ?_
    refine g_get f_Co_20 (by assumption) rfl d_Co_compile_30 ?_
    refine g_iload_n d_Co_compile_33 rfl ?_
    refine g_aald i (by assumption) rfl rfl rfl hi (by decide) (g3 i hi) d_Co_compile_34 ?_
    refine g_aload_n d_Co_compile_35 rfl ?_
    refine g_get f_Co_15 (by assumption) rfl d_Co_compile_36 ?_
    refine g_callV s_Co_30 sv_Cu_cutBy (by assumption) rfl (k_Cu_cutBy hc4 hB4 (by show c4.1 + 2 * m2 ≤ 33; simp only at hlen; omega) (by omega)) (by omega) rfl (by omega) (by omega) rfl (Nat.le_of_ble_eq_true rfl) d_Co_compile_39 ?_
    rintro v' N' M5 ⟨rfl, rfl, hc5, hf5⟩
    have hc5a := hc5.1
    have u1 := (hf5 C (by omega) (by omega)).trans g1''
    have u2 := (hf5 (C + 1) (by omega) (by omega)).trans g2''
    have hA5 := hA4.kept (M' := M5) (fun x _ _ => hf5 x (by omega) (by omega))
    have hB5 := hB4.kept (M' := M5) (fun x _ _ => hf5 x (by omega) (by omega))
    refine g_aload_n d_Co_compile_42 rfl ?_
    refine g_get f_Co_20 (by assumption) rfl d_Co_compile_43 ?_
    refine g_iload_n d_Co_compile_46 rfl ?_
    refine g_aald i (by assumption) rfl rfl rfl hi (by decide) (g3 i hi) d_Co_compile_47 ?_
    refine g_aload_n d_Co_compile_48 rfl ?_
    refine g_get f_Co_9 (by assumption) rfl d_Co_compile_49 ?_
    refine g_iconst (v := nI 0) d_Co_compile_52 (by decide) ?_
    refine g_callV s_Co_34 sv_Cu_mark (by assumption) rfl (k_Cu_mark hc5 hA5 0 (by omega) (by omega)) (by omega) rfl (by omega) (by omega) rfl (Nat.le_of_ble_eq_true rfl) d_Co_compile_53 ?_
    rintro v' N' M6 ⟨rfl, rfl, ⟨ss6, hc6, hs6⟩, hf6⟩
    have hc6a := hc6.1
    have w1 := (hf6 C (by omega)).trans u1
    have w2 := (hf6 (C + 1) (by omega)).trans u2
    have hB6 := hB5.kept (M' := M6) (fun x _ _ => hf6 x (by omega))
    refine g_aload_n d_Co_compile_56 rfl ?_
    refine g_get f_Co_20 (by assumption) rfl d_Co_compile_57 ?_
    refine g_iload_n d_Co_compile_60 rfl ?_
    refine g_aald i (by assumption) rfl rfl rfl hi (by decide) (g3 i hi) d_Co_compile_61 ?_
    refine g_aload_n d_Co_compile_62 rfl ?_
    refine g_get f_Co_15 (by assumption) rfl d_Co_compile_63 ?_
    refine g_bipush (v := nI 8) d_Co_compile_66 (by decide) ?_
    refine g_callV s_Co_34 sv_Cu_mark (by assumption) rfl (k_Cu_mark hc6 hB6 8 (by omega) (by omega)) (by omega) rfl (by omega) (by omega) rfl (Nat.le_of_ble_eq_true rfl) d_Co_compile_68 ?_
    rintro v' N' M7 ⟨rfl, rfl, ⟨ss7, hc7, hs7⟩, hf7⟩
    refine g_iinc1 d_Co_compile_71 rfl (by decide) ?_
    refine g_goto (tgt := 2) d_Co_compile_74 (by decide) ?_
    have hall : ∀ x, x ≠ C + 2 + 3 * i → x ≠ C + 2 + 3 * i + 1 → x ≠ C + 2 + 3 * i + 2 → M7 x = M2 x := fun x x1 x2 x3 => (hf7 x x3).trans ((hf6 x x3).trans ((hf5 x x1 x2).trans ((hf4 x x1 x2).trans (hf3 x x1 x3))))
    refine ih M7 (va_up cn2 i (cfn r2 i c4 m2).1) (va_up cs2 i (cfn r2 i c4 m2).2) (va_up ct2 i ss7) (fun f hf => ?_) (fun f hf => ?_) (fun x hx => (hall x (by omega) (by omega) (by omega)).trans (hfr x hx))
    · by_cases e : f = i
      · subst e
        rw [va_up_self, va_up_self, va_up_self]
        exact hc7
      · rw [va_up_ne _ _ e, va_up_ne _ _ e, va_up_ne _ _ e]
        exact (hC2 f hf).kept (fun x _ _ => hall x (by omega) (by omega) (by omega))
    · by_cases e : f = i
      · subst e
        rw [va_up_self, va_up_self, va_up_self]
        have hro := hc7.2.2.2.2.1
        refine ⟨hro, fun r hr x x1 x2 => ?_⟩
        rw [hs7 r hr, hs6 r hr, Nat.zero_or, Nat.pow_zero, Nat.mul_one]
        show ags r1 f x m1 ||| ags r2 f x m2 * 2 ^ 8 = _
        rw [ags_row hro hr x1 x2 m1 (fun k hk => by
          have := has_cfnN (rs := r1) (f := f) (c := (1, cs2 f)) m1 k hk
          rw [hcf] at this
          exact ⟨has_cfn this.1 m2, has_cfn this.2 m2⟩), ags_row hro hr x1 x2 m2 (fun k hk => has_cfnN m2 k hk)]
      · rw [va_up_ne _ _ e, va_up_ne _ _ e, va_up_ne _ _ e]
        exact hok f (by omega)
theorem k_Co_init {D : Nat} (h : M D = some (.inr (8, [.null, .null, .null]))) (hN : D + 1 = N) (hq1 : M q1 = some (.inr (5, [.ref (q1 + 1), .int (nI m1)]))) (hq2 : M q2 = some (.inr (5, [.ref (q2 + 1), .int (nI m2)]))) (hd1 : q1 + 25 < D) (hd2 : q2 + 25 < D) : Ctr l E y_Co_init 2 [.ref D, .ref q1, .ref q2] N M 13 300 (g_ret (fun v N' M' => v = none ∧ N' = N + 13 ∧ o_co E M' D q1 q2 ∧ (∃ cn' cs' ct', o_cC E M' D cn' cs' ct') ∧ ∀ x, (x < D ∨ D + 13 < x) → M' x = M x)) := by
  refine ctr_of [some (.ref D), some (.ref q1), some (.ref q2), none] (by decide) w_166 rfl rfl (Nat.le_of_ble_eq_true rfl) (fun Γ => ?_)
  refine g_aload_n d_Co_init_0 rfl ?_
  refine g_objInit w_167 m_objI m_objC (by omega) (Nat.le_of_ble_eq_true rfl) d_Co_init_1 ?_
  refine g_aload_n d_Co_init_4 rfl ?_
  refine g_aload_n d_Co_init_5 rfl ?_
  refine g_putF p_Co_9 rfl (by assumption) (Nat.le_of_ble_eq_true rfl) rfl rfl d_Co_init_6 ?_
  refine g_nm (fun M1 e1 f1 => ?_)
  have b2 := (f1 q2 (by omega)).trans hq2
  refine g_aload_n d_Co_init_9 rfl ?_
  refine g_aload_n d_Co_init_10 rfl ?_
  refine g_putF p_Co_15 rfl (by assumption) (Nat.le_of_ble_eq_true rfl) rfl rfl d_Co_init_11 ?_
  refine g_nm (fun M2 e2 f2 => ?_)
  refine g_aload_n d_Co_init_14 rfl ?_
  refine g_iconst (v := nI 4) d_Co_init_15 (by decide) ?_
  refine g_newq 6 _ rfl w_168 ao_Cu rfl (by decide) (by omega) (by omega) d_Co_init_16 ?_
  refine g_nm (fun M3 e3 f3 => ?_)
  have a2 := (f3 D (by omega)).trans e2
  refine g_putF p_Co_20 rfl (by assumption) (Nat.le_of_ble_eq_true rfl) rfl rfl d_Co_init_19 ?_
  refine g_nm (fun M4 e4 f4 => ?_)
  refine g_iconst (v := nI 0) d_Co_init_22 (by decide) ?_
  refine g_istore_n d_Co_init_23 (by decide) ?_
  refine g_for (P := fun i => ∀ (N1 : Nat) (M4 : gM), N1 = D + 2 + 3 * i → M4 D = some (.inr (8, [.ref q1, .ref q2, .ref (D + 1)])) → (∃ fa, M4 (D + 1) = some (g_qa E 6 4 fa) ∧ ∀ j, j < i → fa j = some (D + 2 + 3 * j)) → (∀ j, j < i → o_cut E M4 (D + 2 + 3 * j) j 33 1 (fun _ => 0) (fun _ => 0)) → (∀ x, (x < D ∨ D + 13 < x) → M4 x = M x) → G _ _ _ _ _ _ _ _ _ _ _ _ 24 [some (.ref D), some (.ref q1), some (.ref q2), some (.int (nI i))] [] N1 M4 (1 + 3 * i) (4 + 70 * i)) (e := 4) ?_ ?_ 0 (by decide) _ M4 (by omega) ?_ ?_ ?_ ?_
  · intro N1 M4 hN1 g1 g2 g3 g4
    refine g_iload_n d_Co_init_24 rfl ?_
    refine g_iconst (v := nI 4) d_Co_init_25 (by decide) ?_
    refine g_icmpN_ge (tgt := 51) d_Co_init_26 (by decide) (by omega) (by omega) (fun hb_26 => ?_) (fun hb_26 => ?_)
    · refine g_return rfl (by omega) (by omega) d_Co_init_51 ⟨_, rfl, rfl, by omega, ⟨g1, g2⟩, ⟨fun _ => 1, fun _ _ => 0, fun _ _ => 0, g3⟩, g4⟩
    · omega
  · intro i hi ih N1 M4 hN1 g1 g2 g3 g4
    obtain ⟨fa, b1, b2⟩ := g2
    refine g_iload_n d_Co_init_24 rfl ?_
    refine g_iconst (v := nI 4) d_Co_init_25 (by decide) ?_
    refine g_icmpN_ge (tgt := 51) d_Co_init_26 (by decide) (by omega) (by omega) (fun hb_26 => ?_) (fun hb_26 => ?_)
    · omega
    refine g_aload_n d_Co_init_29 rfl ?_
    refine g_get f_Co_20 (by assumption) rfl d_Co_init_30 ?_
    refine g_iload_n d_Co_init_33 rfl ?_
    refine g_new n_Co_18 (by omega) (by omega) d_Co_init_34 ?_
    refine g_nm (fun M5 e5 f5 => ?_)
    have c1 := (f5 D (by omega)).trans g1
    have c2 := (f5 (D + 1) (by omega)).trans b1
    refine g_dup d_Co_init_37 rfl ?_
    refine g_iload_n d_Co_init_38 rfl ?_
    refine g_bipush (v := nI 16) d_Co_init_39 (by decide) ?_
    refine g_callI s_Co_24 sv_Cu_init (k_Cu_init (cp := 16) e5 rfl hi (by omega)) (by omega) rfl (by omega) (by omega) rfl (Nat.le_of_ble_eq_true rfl) d_Co_init_41 ?_
    rintro v' N' M6 ⟨rfl, rfl, d1, d2⟩
    have c3 := (d2 (D + 1) (by omega) (by omega) (by omega)).trans c2
    have d3 := d1.1
    refine g_aast (ci := 6) (r := (R_Cu, F_Cu, 4)) i (by assumption) rfl rfl (by assumption) rfl (by omega) (by decide) d_Co_init_44 ?_
    refine g_nm (fun M7 e7 f7 => ?_)
    refine g_iinc1 d_Co_init_45 rfl (by decide) ?_
    refine g_goto (tgt := 24) d_Co_init_48 (by decide) ?_
    refine g_wide (k' := 1 + 3 * (i + 1)) (n' := 4 + 70 * (i + 1)) (by omega) (by omega) ?_
    refine ih _ M7 (by omega) ?_ ⟨_, e7, fun j hj => ?_⟩ (fun j hj => ?_) (fun x hx => ?_)
    · rw [f7 _ (by omega), d2 _ (by omega) (by omega) (by omega)]; exact c1
    · by_cases e : j = i
      · subst e
        rw [va_up_self, hN1]
      · rw [va_up_ne _ _ e]
        exact b2 j (by omega)
    · by_cases e : j = i
      · subst e
        rw [hN1] at d1
        exact d1.kept (fun x _ _ => f7 x (by omega))
      · exact (g3 j (by omega)).kept (fun x _ _ => by rw [f7 x (by omega), d2 x (by omega) (by omega) (by omega), f5 x (by omega)])
    · rw [f7 x (by omega), d2 x (by omega) (by omega) (by omega), f5 x (by omega)]
      exact g4 x hx
  · rw [e4, ← hN]; rfl
  · exact ⟨_, (f4 _ (by omega)).trans (by rw [hN]; exact e3), fun j hj => by omega⟩
  · exact fun j hj => by omega
  · exact fun x hx => by rw [f4 x (by omega), f3 x (by omega), f2 x (by omega), f1 x (by omega)]
end COMP

