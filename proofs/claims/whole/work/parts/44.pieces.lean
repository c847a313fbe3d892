/-! pieces of a text -/
/-- the end of the piece that starts at a -/
def tE (n : Nat) (ts : Nat → Nat) (a : Nat) : Nat := if kd n ts a = 2 ∨ kd n ts a = 3 then bh n ts a (kd n ts a) else if kd n ts a = 0 then a else a + 1
/-- the start of the next piece -/
def nx (n : Nat) (ts : Nat → Nat) (a : Nat) : Nat := bh n ts (tE n ts a) 1
theorem kd_0 {n : Nat} {ts : Nat → Nat} {k : Nat} : kd n ts k = 0 ↔ n ≤ k := by
  unfold kd
  have := kc_le (ts k)
  split <;> omega
theorem tE_in {n : Nat} {ts : Nat → Nat} {a : Nat} (ha : a ≤ n) : a ≤ tE n ts a ∧ tE n ts a ≤ n := by
  unfold tE
  have h1 := bh_in n ts a (kd n ts a)
  have h0 := kd_0 (n := n) (ts := ts) (k := a)
  split
  · exact ⟨h1.1, h1.2 ha⟩
  · split
    · omega
    · omega
theorem bh_all {n : Nat} {ts : Nat → Nat} {p x j : Nat} (h1 : p ≤ j) (h2 : j < bh n ts p x) : kd n ts j = x := by
  have h := (fi_spec (fun j => decide (kd n ts (p + j) ≠ x)) (n - p)).1 (j - p) (by unfold bh at h2; omega)
  have e : p + (j - p) = j := by omega
  simp only [e] at h
  have h3 := of_decide_eq_false h
  exact Classical.byContradiction h3
theorem bh_end {n : Nat} {ts : Nat → Nat} {p x : Nat} (hp : p ≤ n) (h : bh n ts p x < n) : kd n ts (bh n ts p x) ≠ x := by
  have h1 := (fi_spec (fun j => decide (kd n ts (p + j) ≠ x)) (n - p)).2 (by unfold bh at h; omega)
  exact of_decide_eq_true h1
/-- a piece of digits is digits -/
theorem tE_dig {n : Nat} {ts : Nat → Nat} {a j : Nat} (hk : kd n ts a = 3) (h1 : a ≤ j) (h2 : j < tE n ts a) : j < n ∧ 48 ≤ ts j ∧ ts j ≤ 57 := by
  have e : tE n ts a = bh n ts a 3 := by unfold tE; rw [if_pos (Or.inr hk), hk]
  rw [e] at h2
  have h3 := bh_all h1 h2
  have h4 : j < n := by
    have := kd_0 (n := n) (ts := ts) (k := j)
    omega
  refine ⟨h4, ?_⟩
  unfold kd at h3
  rw [if_pos h4] at h3
  unfold kc at h3
  repeat' split at h3
  all_goals omega
theorem tE_let {n : Nat} {ts : Nat → Nat} {a j : Nat} (hk : kd n ts a = 2) (h1 : a ≤ j) (h2 : j < tE n ts a) : j < n := by
  have e : tE n ts a = bh n ts a 2 := by unfold tE; rw [if_pos (Or.inl hk), hk]
  rw [e] at h2
  have h3 := bh_all h1 h2
  have := kd_0 (n := n) (ts := ts) (k := j)
  omega
/-- the number that k digits from a on spell -/
def dv (ts : Nat → Nat) (a : Nat) : Nat → Nat
  | 0 => 0
  | k + 1 => 10 * dv ts a k + (ts (a + k) - 48)
def nv (n : Nat) (ts : Nat → Nat) (a : Nat) : Nat := dv ts a (tE n ts a - a)
theorem dv_lt {n : Nat} {ts : Nat → Nat} {a : Nat} (hk : kd n ts a = 3) : ∀ k, a + k ≤ tE n ts a → dv ts a k < 10 ^ k := by
  intro k
  induction k with
  | zero => intro _; exact Nat.one_pos
  | succ k ih =>
    intro h
    have h1 := ih (by omega)
    have h2 := tE_dig hk (j := a + k) (by omega) (by omega)
    show 10 * dv ts a k + (ts (a + k) - 48) < 10 ^ (k + 1)
    rw [Nat.pow_succ]
    omega
theorem nv_lt {n : Nat} {ts : Nat → Nat} {a : Nat} (ha : a ≤ n) (hk : kd n ts a = 3) (h4 : tE n ts a - a ≤ 4) : nv n ts a < 10000 := by
  have h1 := (tE_in (ts := ts) ha).1
  have h2 := dv_lt hk (tE n ts a - a) (by omega)
  have h3 : 10 ^ (tE n ts a - a) ≤ 10 ^ 4 := Nat.pow_le_pow_right (by omega) h4
  unfold nv
  omega
/-- the piece at a is text i -/
def wd (n : Nat) (ts : Nat → Nat) (a i : Nat) : Bool := decide (kd n ts a = 2) && (decide (tE n ts a - a = g_slen.getD i 0) && decide (∀ j, j < g_slen.getD i 0 → ts (a + j) = stx i j))
def sg (n : Nat) (ts : Nat → Nat) (a c : Nat) : Bool := decide (kd n ts a = 4) && decide (ts a = c)
def nb (n : Nat) (ts : Nat → Nat) (a lo hi : Nat) : Bool := decide (kd n ts a = 3) && (decide (tE n ts a - a ≤ 4) && (decide (lo ≤ nv n ts a) && decide (nv n ts a ≤ hi)))
def o_pc (M : gM) (P t n : Nat) (ts : Nat → Nat) (a : Nat) : Prop := M P = some (.inr (2, [.ref t, .int (nI a), .int (nI (tE n ts a)), .int (nI (kd n ts a))])) ∧ a ≤ n
section PIECES
variable {l : Launch} {E : gE} {N : Nat} {M : gM} {P t n : Nat} {ts : Nat → Nat} {a : Nat}
theorem k_Pi_step {x1 x3 : Int32} {e0 : Nat} (h : M P = some (.inr (2, [.ref t, .int x1, .int (nI e0), .int x3]))) (hT : o_text E M t n ts) (he : e0 ≤ n) (hd : P ≠ t ∧ P ≠ t + 1) : Ctr l E y_Pi_step 2 [.ref P] N M 0 0 (g_ret (fun v N' M' => v = none ∧ N' = N ∧ o_pc M' P t n ts (bh n ts e0 1) ∧ ∀ x, x ≠ P → M' x = M x)) := by
  have hb := (bh_in n ts e0 1).2 he
  have hn := hT.2.1
  have hta := hT.1
  generalize ha : bh n ts e0 1 = a at hb ⊢
  have hk := kd_le n ts a
  have htE := tE_in (ts := ts) hb
  refine ctr_of [some (.ref P)] (by decide) w_466 rfl rfl (Nat.le_of_ble_eq_true rfl) (fun Γ => ?_)
  refine g_aload_n d_Pi_step_0 rfl ?_
  refine g_aload_n d_Pi_step_1 rfl ?_
  refine g_get f_Pi_9 (by assumption) rfl d_Pi_step_2 ?_
  refine g_aload_n d_Pi_step_5 rfl ?_
  refine g_get f_Pi_15 (by assumption) rfl d_Pi_step_6 ?_
  refine g_iconst (v := nI 1) d_Pi_step_9 (by decide) ?_
  refine g_callV s_Pi_24 sv_Tx_behind (by assumption) rfl (g_of_val (k_Tx_behind hT e0 1 he (by decide))) (by omega) rfl (by omega) (by omega) rfl (Nat.le_of_ble_eq_true rfl) d_Pi_step_10 ?_
  rintro _ _ _ ⟨rfl, rfl, rfl⟩
  rw [ha]
  refine g_put p_Pi_28 (by assumption) (Nat.le_of_ble_eq_true rfl) rfl rfl d_Pi_step_13 ?_
  refine g_nm (fun M1 e1 f1 => ?_)
  have hT1 := hT.kept (M' := M1) (fun x _ _ => f1 x (by omega))
  have hT1a := hT1.1
  refine g_aload_n d_Pi_step_16 rfl ?_
  refine g_aload_n d_Pi_step_17 rfl ?_
  refine g_get f_Pi_9 (by assumption) rfl d_Pi_step_18 ?_
  refine g_aload_n d_Pi_step_21 rfl ?_
  refine g_get f_Pi_28 (by assumption) rfl d_Pi_step_22 ?_
  refine g_callV s_Pi_31 sv_Tx_kindAt (by assumption) rfl (g_of_val (k_Tx_kindAt hT1 a (by omega))) (by omega) rfl (by omega) (by omega) rfl (Nat.le_of_ble_eq_true rfl) d_Pi_step_25 ?_
  rintro _ _ _ ⟨rfl, rfl, rfl⟩
  refine g_put p_Pi_35 (by assumption) (Nat.le_of_ble_eq_true rfl) rfl rfl d_Pi_step_28 ?_
  refine g_nm (fun M2 e2 f2 => ?_)
  have hT2 := hT1.kept (M' := M2) (fun x _ _ => f2 x (by omega))
  have hT2a := hT2.1
  have fin : ∀ (M3 : gM) (v : Value), v = .int (nI (tE n ts a)) → M3 P = some (.inr (2, [.ref t, .int (nI a), v, .int (nI (kd n ts a))])) → (∀ q, q ≠ P → M3 q = M2 q) → G l E y_Pi_step c_Pi_step 1 none [] 2 (g_ret (fun v N' M' => v = none ∧ N' = N ∧ o_pc M' P t n ts a ∧ ∀ x, x ≠ P → M' x = M x)) 0 0 Γ 93 [some (.ref P)] [] N M3 0 0 := by
    intro M3 v hv e3 f3
    subst hv
    exact g_return rfl (by omega) (by omega) d_Pi_step_93 ⟨_, rfl, rfl, rfl, ⟨e3, hb⟩, fun x hx => (f3 x hx).trans ((f2 x hx).trans (f1 x hx))⟩
  have two : (kd n ts a = 2 ∨ kd n ts a = 3) → G l E y_Pi_step c_Pi_step 1 none [] 2 (g_ret (fun v N' M' => v = none ∧ N' = N ∧ o_pc M' P t n ts a ∧ ∀ x, x ≠ P → M' x = M x)) 0 0 Γ 47 [some (.ref P)] [] N M2 0 0 := by
    intro h23
    have eE : tE n ts a = bh n ts a (kd n ts a) := by unfold tE; rw [if_pos h23]
    refine g_aload_n d_Pi_step_47 rfl ?_
    refine g_aload_n d_Pi_step_48 rfl ?_
    refine g_get f_Pi_9 (by assumption) rfl d_Pi_step_49 ?_
    refine g_aload_n d_Pi_step_52 rfl ?_
    refine g_get f_Pi_28 (by assumption) rfl d_Pi_step_53 ?_
    refine g_aload_n d_Pi_step_56 rfl ?_
    refine g_get f_Pi_35 (by assumption) rfl d_Pi_step_57 ?_
    refine g_callV s_Pi_24 sv_Tx_behind (by assumption) rfl (g_of_val (k_Tx_behind hT2 a (kd n ts a) hb (by omega))) (by omega) rfl (by omega) (by omega) rfl (Nat.le_of_ble_eq_true rfl) d_Pi_step_60 ?_
    rintro _ _ _ ⟨rfl, rfl, rfl⟩
    refine g_put p_Pi_15 (by assumption) (Nat.le_of_ble_eq_true rfl) rfl rfl d_Pi_step_63 ?_
    refine g_nm (fun M3 e3 f3 => ?_)
    refine g_goto (tgt := 93) d_Pi_step_66 (by decide) ?_
    exact fin M3 _ (by rw [eE]) e3 f3
  refine g_aload_n d_Pi_step_31 rfl ?_
  refine g_get f_Pi_35 (by assumption) rfl d_Pi_step_32 ?_
  refine g_iconst (v := nI 2) d_Pi_step_35 (by decide) ?_
  refine g_icmpN_eq (tgt := 47) d_Pi_step_36 (by decide) (by omega) (by omega) (fun hb_36 => ?_) (fun hb_36 => ?_)
  · exact two (Or.inl hb_36)
  refine g_aload_n d_Pi_step_39 rfl ?_
  refine g_get f_Pi_35 (by assumption) rfl d_Pi_step_40 ?_
  refine g_iconst (v := nI 3) d_Pi_step_43 (by decide) ?_
  refine g_icmpN_ne (tgt := 69) d_Pi_step_44 (by decide) (by omega) (by omega) (fun hb_44 => ?_) (fun hb_44 => ?_)
  · have h23 : ¬ (kd n ts a = 2 ∨ kd n ts a = 3) := by omega
    refine g_aload_n d_Pi_step_69 rfl ?_
    refine g_aload_n d_Pi_step_70 rfl ?_
    refine g_get f_Pi_35 (by assumption) rfl d_Pi_step_71 ?_
    first | refine g_ifB_ne (tgt := 84) d_Pi_step_74 (by decide) (fun hb_74 => ?_) (fun hb_74 => ?_) | refine g_ifN_ne (tgt := 84) d_Pi_step_74 (by decide) (by omega) (fun hb_74 => ?_) (fun hb_74 => ?_)
    · have eE : tE n ts a = a + 1 := by unfold tE; rw [if_neg h23, if_neg hb_74]
      refine g_aload_n d_Pi_step_84 rfl ?_
      refine g_get f_Pi_28 (by assumption) rfl d_Pi_step_85 ?_
      refine g_iconst (v := nI 1) d_Pi_step_88 (by decide) ?_
      refine g_iadd d_Pi_step_89 ?_
      refine g_eqi (nI_add _ _) ?_
      refine g_put p_Pi_15 (by assumption) (Nat.le_of_ble_eq_true rfl) rfl rfl d_Pi_step_90 ?_
      refine g_nm (fun M3 e3 f3 => ?_)
      exact fin M3 _ (by rw [eE]) e3 f3
    · have eE : tE n ts a = a := by unfold tE; rw [if_neg h23, if_pos hb_74]
      refine g_aload_n d_Pi_step_77 rfl ?_
      refine g_get f_Pi_28 (by assumption) rfl d_Pi_step_78 ?_
      refine g_goto (tgt := 90) d_Pi_step_81 (by decide) ?_
      refine g_put p_Pi_15 (by assumption) (Nat.le_of_ble_eq_true rfl) rfl rfl d_Pi_step_90 ?_
      refine g_nm (fun M3 e3 f3 => ?_)
      exact fin M3 _ (by rw [eE]) e3 f3
  · exact two (Or.inr hb_44)
theorem k_Pi_next (h : o_pc M P t n ts a) (hT : o_text E M t n ts) (hd : P ≠ t ∧ P ≠ t + 1) : Ctr l E y_Pi_step 2 [.ref P] N M 0 0 (g_ret (fun v N' M' => v = none ∧ N' = N ∧ o_pc M' P t n ts (nx n ts a) ∧ ∀ x, x ≠ P → M' x = M x)) :=
  k_Pi_step h.1 hT (tE_in h.2).2 hd
theorem k_Pi_restart {x1 x2 x3 : Int32} (h : M P = some (.inr (2, [.ref t, .int x1, .int x2, .int x3]))) (hT : o_text E M t n ts) (hd : P ≠ t ∧ P ≠ t + 1) : Ctr l E y_Pi_restart 3 [.ref P] N M 0 0 (g_ret (fun v N' M' => v = none ∧ N' = N ∧ o_pc M' P t n ts (bh n ts 0 1) ∧ ∀ x, x ≠ P → M' x = M x)) := by
  refine ctr_of [some (.ref P)] (by decide) w_462 rfl rfl (Nat.le_of_ble_eq_true rfl) (fun Γ => ?_)
  refine g_aload_n d_Pi_restart_0 rfl ?_
  refine g_iconst (v := nI 0) d_Pi_restart_1 (by decide) ?_
  refine g_put p_Pi_15 (by assumption) (Nat.le_of_ble_eq_true rfl) rfl rfl d_Pi_restart_2 ?_
  refine g_nm (fun M1 e1 f1 => ?_)
  have hT1 := hT.kept (M' := M1) (fun x _ _ => f1 x (by omega))
  refine g_aload_n d_Pi_restart_5 rfl ?_
  refine g_callV s_Pi_19 sv_Pi_step (by assumption) rfl (k_Pi_step (e0 := 0) e1 hT1 (by omega) hd) (by omega) rfl (by omega) (by omega) rfl (Nat.le_of_ble_eq_true rfl) d_Pi_restart_6 ?_
  rintro v' N' M2 ⟨rfl, rfl, hp, hf⟩
  exact g_return rfl (by omega) (by omega) d_Pi_restart_9 ⟨_, rfl, rfl, rfl, hp, fun x hx => (hf x hx).trans (f1 x hx)⟩
theorem k_Pi_place (h : o_pc M P t n ts a) : Ctr l E y_Pi_place 0 [.ref P] N M 0 0 (g_val (some (.int (nI a))) N M) := by
  obtain ⟨h1, h2⟩ := h
  refine ctr_of [some (.ref P)] (by decide) w_614 rfl rfl (Nat.le_of_ble_eq_true rfl) (fun Γ => ?_)
  refine g_aload_n d_Pi_place_0 rfl ?_
  refine g_get f_Pi_28 (by assumption) rfl d_Pi_place_1 ?_
  exact g_ireturn rfl (by first | rfl | exact bI_nar _) (by omega) (by omega) d_Pi_place_4 ⟨rfl, rfl, rfl⟩
theorem k_Pi_isEnd (h : o_pc M P t n ts a) : Ctr l E y_Pi_isEnd 0 [.ref P] N M 0 0 (g_val (some (.int (bI (decide (n ≤ a))))) N M) := by
  obtain ⟨h1, h2⟩ := h
  have hk := kd_le n ts a
  have h0 := kd_0 (n := n) (ts := ts) (k := a)
  refine ctr_of [some (.ref P)] (by decide) w_479 rfl rfl (Nat.le_of_ble_eq_true rfl) (fun Γ => ?_)
  refine g_aload_n d_Pi_isEnd_0 rfl ?_
  refine g_get f_Pi_35 (by assumption) rfl d_Pi_isEnd_1 ?_
  first | refine g_ifB_ne (tgt := 11) d_Pi_isEnd_4 (by decide) (fun hb_4 => ?_) (fun hb_4 => ?_) | refine g_ifN_ne (tgt := 11) d_Pi_isEnd_4 (by decide) (by omega) (fun hb_4 => ?_) (fun hb_4 => ?_)
  · refine g_iconst (v := nI 0) d_Pi_isEnd_11 (by decide) ?_
    refine g_Fa (b := decide (n ≤ a)) (by simp; omega) ?_
    exact g_ireturn rfl (by first | rfl | exact bI_nar _) (by omega) (by omega) d_Pi_isEnd_12 ⟨rfl, rfl, rfl⟩
  · refine g_iconst (v := nI 1) d_Pi_isEnd_7 (by decide) ?_
    refine g_goto (tgt := 12) d_Pi_isEnd_8 (by decide) ?_
    refine g_Tr (b := decide (n ≤ a)) (by simp; omega) ?_
    exact g_ireturn rfl (by first | rfl | exact bI_nar _) (by omega) (by omega) d_Pi_isEnd_12 ⟨rfl, rfl, rfl⟩
theorem k_Pi_isSign (h : o_pc M P t n ts a) (hT : o_text E M t n ts) (c : Nat) (hc : c < 128) : Ctr l E y_Pi_isSign 1 [.ref P, .int (nI c)] N M 0 0 (g_val (some (.int (bI (sg n ts a c)))) N M) := by
  obtain ⟨h1, h2⟩ := h
  have hk := kd_le n ts a
  have hta := hT.1
  have h0 := kd_0 (n := n) (ts := ts) (k := a)
  refine ctr_of [some (.ref P), some (.int (nI c))] (by decide) w_566 rfl rfl (Nat.le_of_ble_eq_true rfl) (fun Γ => ?_)
  refine g_aload_n d_Pi_isSign_0 rfl ?_
  refine g_get f_Pi_35 (by assumption) rfl d_Pi_isSign_1 ?_
  refine g_iconst (v := nI 4) d_Pi_isSign_4 (by decide) ?_
  refine g_icmpN_ne (tgt := 27) d_Pi_isSign_5 (by decide) (by omega) (by omega) (fun hb_5 => ?_) (fun hb_5 => ?_)
  · refine g_iconst (v := nI 0) d_Pi_isSign_27 (by decide) ?_
    refine g_Fa (b := sg n ts a c) (by simp [sg, hb_5]) ?_
    exact g_ireturn rfl (by first | rfl | exact bI_nar _) (by omega) (by omega) d_Pi_isSign_28 ⟨rfl, rfl, rfl⟩
  · have han : a < n := by omega
    have hs := hT.2.2.1 a han
    refine g_aload_n d_Pi_isSign_8 rfl ?_
    refine g_get f_Pi_9 (by assumption) rfl d_Pi_isSign_9 ?_
    refine g_aload_n d_Pi_isSign_12 rfl ?_
    refine g_get f_Pi_28 (by assumption) rfl d_Pi_isSign_13 ?_
    refine g_callV s_Pi_38 sv_Tx_at (by assumption) rfl (g_of_val (k_Tx_at hT a han)) (by omega) rfl (by omega) (by omega) rfl (Nat.le_of_ble_eq_true rfl) d_Pi_isSign_16 ?_
    rintro _ _ _ ⟨rfl, rfl, rfl⟩
    refine g_iload_n d_Pi_isSign_19 rfl ?_
    refine g_icmpN_ne (tgt := 27) d_Pi_isSign_20 (by decide) (by omega) (by omega) (fun hb_20 => ?_) (fun hb_20 => ?_)
    · refine g_iconst (v := nI 0) d_Pi_isSign_27 (by decide) ?_
      refine g_Fa (b := sg n ts a c) (by simp [sg, hb_20]) ?_
      exact g_ireturn rfl (by first | rfl | exact bI_nar _) (by omega) (by omega) d_Pi_isSign_28 ⟨rfl, rfl, rfl⟩
    · refine g_iconst (v := nI 1) d_Pi_isSign_23 (by decide) ?_
      refine g_goto (tgt := 28) d_Pi_isSign_24 (by decide) ?_
      refine g_Tr (b := sg n ts a c) (by simp [sg, hb_5, hb_20]) ?_
      exact g_ireturn rfl (by first | rfl | exact bI_nar _) (by omega) (by omega) d_Pi_isSign_28 ⟨rfl, rfl, rfl⟩
theorem k_Pi_number (h : o_pc M P t n ts a) (hT : o_text E M t n ts) (hk : kd n ts a = 3) (h4 : tE n ts a - a ≤ 4) : Ctr l E y_Pi_number 1 [.ref P] N M 0 0 (g_val (some (.int (nI (nv n ts a)))) N M) := by
  obtain ⟨h1, h2⟩ := h
  have hta := hT.1
  have hn := hT.2.1
  have hE := tE_in (ts := ts) h2
  refine ctr_of [some (.ref P), none, none] (by decide) w_595 rfl rfl (Nat.le_of_ble_eq_true rfl) (fun Γ => ?_)
  refine g_iconst (v := nI 0) d_Pi_number_0 (by decide) ?_
  refine g_istore_n d_Pi_number_1 (by decide) ?_
  refine g_aload_n d_Pi_number_2 rfl ?_
  refine g_get f_Pi_28 (by assumption) rfl d_Pi_number_3 ?_
  refine g_istore_n d_Pi_number_6 (by decide) ?_
  refine g_for (P := fun i => G _ _ _ _ _ _ _ _ _ _ _ _ 7 [some (.ref P), some (.int (nI (dv ts a i))), some (.int (nI (a + i)))] [] N M 0 0) (e := tE n ts a - a) ?_ ?_ 0 (by omega)
  · refine g_iload_n d_Pi_number_7 rfl ?_
    refine g_aload_n d_Pi_number_8 rfl ?_
    refine g_get f_Pi_15 (by assumption) rfl d_Pi_number_9 ?_
    refine g_icmpN_ge (tgt := 38) d_Pi_number_12 (by decide) (by omega) (by omega) (fun hb_12 => ?_) (fun hb_12 => ?_)
    · refine g_iload_n d_Pi_number_38 rfl ?_
      exact g_ireturn rfl (by first | rfl | exact bI_nar _) (by omega) (by omega) d_Pi_number_39 ⟨rfl, rfl, rfl⟩
    · omega
  · intro i hi ih
    have hg := tE_dig hk (j := a + i) (by omega) (by omega)
    refine g_iload_n d_Pi_number_7 rfl ?_
    refine g_aload_n d_Pi_number_8 rfl ?_
    refine g_get f_Pi_15 (by assumption) rfl d_Pi_number_9 ?_
    refine g_icmpN_ge (tgt := 38) d_Pi_number_12 (by decide) (by omega) (by omega) (fun hb_12 => ?_) (fun hb_12 => ?_)
    · omega
    refine g_bipush (v := nI 10) d_Pi_number_15 (by decide) ?_
    refine g_iload_n d_Pi_number_17 rfl ?_
    refine g_imul d_Pi_number_18 ?_
    refine g_eqi (pk_mul _ _) ?_
    refine g_aload_n d_Pi_number_19 rfl ?_
    refine g_get f_Pi_9 (by assumption) rfl d_Pi_number_20 ?_
    refine g_iload_n d_Pi_number_23 rfl ?_
    refine g_callV s_Pi_38 sv_Tx_at (by assumption) rfl (g_of_val (k_Tx_at hT (a + i) hg.1)) (by omega) rfl (by omega) (by omega) rfl (Nat.le_of_ble_eq_true rfl) d_Pi_number_24 ?_
    rintro _ _ _ ⟨rfl, rfl, rfl⟩
    refine g_bipush (v := nI 48) d_Pi_number_27 (by decide) ?_
    refine g_isub d_Pi_number_29 ?_
    refine g_eqi (pk_sub hg.2.1) ?_
    refine g_iadd d_Pi_number_30 ?_
    refine g_eqi (nI_add _ _) ?_
    refine g_istore_n d_Pi_number_31 (by decide) ?_
    refine g_iinc1 d_Pi_number_32 rfl (by decide) ?_
    refine g_goto (tgt := 7) d_Pi_number_35 (by decide) ?_
    exact ih
theorem k_Pi_isNumber (h : o_pc M P t n ts a) (hT : o_text E M t n ts) (lo hi : Nat) (hlo : lo < 2 ^ 31) (hhi : hi < 2 ^ 31) : Ctr l E y_Pi_isNumber 2 [.ref P, .int (nI lo), .int (nI hi)] N M 0 0 (g_val (some (.int (bI (nb n ts a lo hi)))) N M) := by
  have h0 := h
  obtain ⟨h1, h2⟩ := h
  have hk := kd_le n ts a
  have hn := hT.2.1
  have hE := tE_in (ts := ts) h2
  refine ctr_of [some (.ref P), some (.int (nI lo)), some (.int (nI hi)), none] (by decide) w_591 rfl rfl (Nat.le_of_ble_eq_true rfl) (fun Γ => ?_)
  refine g_aload_n d_Pi_isNumber_0 rfl ?_
  refine g_get f_Pi_35 (by assumption) rfl d_Pi_isNumber_1 ?_
  refine g_iconst (v := nI 3) d_Pi_isNumber_4 (by decide) ?_
  refine g_icmpN_ne (tgt := 21) d_Pi_isNumber_5 (by decide) (by omega) (by omega) (fun hb_5 => ?_) (fun hb_5 => ?_)
  · refine g_iconst (v := nI 0) d_Pi_isNumber_21 (by decide) ?_
    refine g_Fa (b := nb n ts a lo hi) (by simp [nb, hb_5]) ?_
    exact g_ireturn rfl (by first | rfl | exact bI_nar _) (by omega) (by omega) d_Pi_isNumber_22 ⟨rfl, rfl, rfl⟩
  · refine g_aload_n d_Pi_isNumber_8 rfl ?_
    refine g_get f_Pi_15 (by assumption) rfl d_Pi_isNumber_9 ?_
    refine g_aload_n d_Pi_isNumber_12 rfl ?_
    refine g_get f_Pi_28 (by assumption) rfl d_Pi_isNumber_13 ?_
    refine g_isub d_Pi_isNumber_16 ?_
    refine g_eqi (pk_sub hE.1) ?_
    refine g_iconst (v := nI 4) d_Pi_isNumber_17 (by decide) ?_
    refine g_icmpN_le (tgt := 23) d_Pi_isNumber_18 (by decide) (by omega) (by omega) (fun hb_18 => ?_) (fun hb_18 => ?_)
    · have hv := nv_lt h2 hb_5 hb_18
      refine g_aload_n d_Pi_isNumber_23 rfl ?_
      refine g_callV s_Pi_51 sv_Pi_number (by assumption) rfl (g_of_val (k_Pi_number h0 hT hb_5 hb_18)) (by omega) rfl (by omega) (by omega) rfl (Nat.le_of_ble_eq_true rfl) d_Pi_isNumber_24 ?_
      rintro _ _ _ ⟨rfl, rfl, rfl⟩
      refine g_istore_n d_Pi_isNumber_27 (by decide) ?_
      refine g_iload_n d_Pi_isNumber_28 rfl ?_
      refine g_iload_n d_Pi_isNumber_29 rfl ?_
      refine g_icmpN_lt (tgt := 42) d_Pi_isNumber_30 (by decide) (by omega) (by omega) (fun hb_30 => ?_) (fun hb_30 => ?_)
      · refine g_iconst (v := nI 0) d_Pi_isNumber_42 (by decide) ?_
        refine g_Fa (b := nb n ts a lo hi) (by simp [nb]; omega) ?_
        exact g_ireturn rfl (by first | rfl | exact bI_nar _) (by omega) (by omega) d_Pi_isNumber_43 ⟨rfl, rfl, rfl⟩
      refine g_iload_n d_Pi_isNumber_33 rfl ?_
      refine g_iload_n d_Pi_isNumber_34 rfl ?_
      refine g_icmpN_gt (tgt := 42) d_Pi_isNumber_35 (by decide) (by omega) (by omega) (fun hb_35 => ?_) (fun hb_35 => ?_)
      · refine g_iconst (v := nI 0) d_Pi_isNumber_42 (by decide) ?_
        refine g_Fa (b := nb n ts a lo hi) (by simp [nb]; omega) ?_
        exact g_ireturn rfl (by first | rfl | exact bI_nar _) (by omega) (by omega) d_Pi_isNumber_43 ⟨rfl, rfl, rfl⟩
      · refine g_iconst (v := nI 1) d_Pi_isNumber_38 (by decide) ?_
        refine g_goto (tgt := 43) d_Pi_isNumber_39 (by decide) ?_
        refine g_Tr (b := nb n ts a lo hi) (by simp [nb]; omega) ?_
        exact g_ireturn rfl (by first | rfl | exact bI_nar _) (by omega) (by omega) d_Pi_isNumber_43 ⟨rfl, rfl, rfl⟩
    · refine g_iconst (v := nI 0) d_Pi_isNumber_21 (by decide) ?_
      refine g_Fa (b := nb n ts a lo hi) (by simp [nb]; omega) ?_
      exact g_ireturn rfl (by first | rfl | exact bI_nar _) (by omega) (by omega) d_Pi_isNumber_22 ⟨rfl, rfl, rfl⟩
theorem k_Pi_isWord (h : o_pc M P t n ts a) (hT : o_text E M t n ts) (i : Nat) (hi : i < 16) : Ctr l E y_Pi_isWord 5 [.ref P, .ref (g_ad E (2 + i))] N M 0 0 (g_val (some (.int (bI (wd n ts a i)))) N M) := by
  obtain ⟨h1, h2⟩ := h
  have hk := kd_le n ts a
  have hn := hT.2.1
  have hta := hT.1
  have hE := tE_in (ts := ts) h2
  have hs := slen_lt i hi
  refine ctr_of [some (.ref P), some (.ref (g_ad E (2 + i))), none] (by decide) w_500 rfl rfl (Nat.le_of_ble_eq_true rfl) (fun Γ => ?_)
  refine g_aload_n d_Pi_isWord_0 rfl ?_
  refine g_get f_Pi_35 (by assumption) rfl d_Pi_isWord_1 ?_
  refine g_iconst (v := nI 2) d_Pi_isWord_4 (by decide) ?_
  refine g_icmpN_ne (tgt := 24) d_Pi_isWord_5 (by decide) (by omega) (by omega) (fun hb_5 => ?_) (fun hb_5 => ?_)
  · refine g_iconst (v := nI 0) d_Pi_isWord_24 (by decide) ?_
    refine g_Fa (b := wd n ts a i) (by simp [wd, hb_5]) ?_
    exact g_ireturn rfl (by first | rfl | exact bI_nar _) (by omega) (by omega) d_Pi_isWord_25 ⟨rfl, rfl, rfl⟩
  · refine g_aload_n d_Pi_isWord_8 rfl ?_
    refine g_get f_Pi_15 (by assumption) rfl d_Pi_isWord_9 ?_
    refine g_aload_n d_Pi_isWord_12 rfl ?_
    refine g_get f_Pi_28 (by assumption) rfl d_Pi_isWord_13 ?_
    refine g_isub d_Pi_isWord_16 ?_
    refine g_eqi (pk_sub hE.1) ?_
    refine g_aload_n d_Pi_isWord_17 rfl ?_
    refine g_callVO s_Pi_42 sv_Str_length (s_O i hi) (g_of_val (k_Str_length i hi)) (by omega) rfl (by omega) (by omega) rfl (Nat.le_of_ble_eq_true rfl) d_Pi_isWord_18 ?_
    rintro _ _ _ ⟨rfl, rfl, rfl⟩
    refine g_icmpN_eq (tgt := 26) d_Pi_isWord_21 (by decide) (by omega) (by omega) (fun hb_21 => ?_) (fun hb_21 => ?_)
    · refine g_iconst (v := nI 0) d_Pi_isWord_26 (by decide) ?_
      refine g_istore_n d_Pi_isWord_27 (by decide) ?_
      refine g_for (P := fun j => (∀ z, z < j → ts (a + z) = stx i z) → G _ _ _ _ _ _ _ _ _ _ _ _ 28 [some (.ref P), some (.ref (g_ad E (2 + i))), some (.int (nI j))] [] N M 0 0) (e := g_slen.getD i 0) ?_ ?_ 0 (by omega) (fun z hz => by omega)
      · intro hall
        refine g_iload_n d_Pi_isWord_28 rfl ?_
        refine g_aload_n d_Pi_isWord_29 rfl ?_
        refine g_callVO s_Pi_42 sv_Str_length (s_O i hi) (g_of_val (k_Str_length i hi)) (by omega) rfl (by omega) (by omega) rfl (Nat.le_of_ble_eq_true rfl) d_Pi_isWord_30 ?_
        rintro _ _ _ ⟨rfl, rfl, rfl⟩
        refine g_icmpN_ge (tgt := 65) d_Pi_isWord_33 (by decide) (by omega) (by omega) (fun hb_33 => ?_) (fun hb_33 => ?_)
        · refine g_iconst (v := nI 1) d_Pi_isWord_65 (by decide) ?_
          refine g_Tr (b := wd n ts a i) (by simp only [wd, Bool.and_eq_true, decide_eq_true_eq]; exact ⟨hb_5, hb_21, hall⟩) ?_
          exact g_ireturn rfl (by first | rfl | exact bI_nar _) (by omega) (by omega) d_Pi_isWord_66 ⟨rfl, rfl, rfl⟩
        · omega
      · intro j hj ih hall
        have hln := tE_let hb_5 (j := a + j) (by omega) (by omega)
        have hch := hT.2.2.1 (a + j) hln
        have hsx := (stx_v i hi j hj).2
        refine g_iload_n d_Pi_isWord_28 rfl ?_
        refine g_aload_n d_Pi_isWord_29 rfl ?_
        refine g_callVO s_Pi_42 sv_Str_length (s_O i hi) (g_of_val (k_Str_length i hi)) (by omega) rfl (by omega) (by omega) rfl (Nat.le_of_ble_eq_true rfl) d_Pi_isWord_30 ?_
        rintro _ _ _ ⟨rfl, rfl, rfl⟩
        refine g_icmpN_ge (tgt := 65) d_Pi_isWord_33 (by decide) (by omega) (by omega) (fun hb_33 => ?_) (fun hb_33 => ?_)
        · omega
        refine g_aload_n d_Pi_isWord_36 rfl ?_
        refine g_get f_Pi_9 (by assumption) rfl d_Pi_isWord_37 ?_
        refine g_aload_n d_Pi_isWord_40 rfl ?_
        refine g_get f_Pi_28 (by assumption) rfl d_Pi_isWord_41 ?_
        refine g_iload_n d_Pi_isWord_44 rfl ?_
        refine g_iadd d_Pi_isWord_45 ?_
        refine g_eqi (nI_add _ _) ?_
        refine g_callV s_Pi_38 sv_Tx_at (by assumption) rfl (g_of_val (k_Tx_at hT (a + j) hln)) (by omega) rfl (by omega) (by omega) rfl (Nat.le_of_ble_eq_true rfl) d_Pi_isWord_46 ?_
        rintro _ _ _ ⟨rfl, rfl, rfl⟩
        refine g_aload_n d_Pi_isWord_49 rfl ?_
        refine g_iload_n d_Pi_isWord_50 rfl ?_
        refine g_callVO s_Pi_48 sv_Str_charAt (s_O i hi) (g_of_val (k_Str_charAt i j hi hj)) (by omega) rfl (by omega) (by omega) rfl (Nat.le_of_ble_eq_true rfl) d_Pi_isWord_51 ?_
        rintro _ _ _ ⟨rfl, rfl, rfl⟩
        refine g_icmpN_eq (tgt := 59) d_Pi_isWord_54 (by decide) (by omega) (by omega) (fun hb_54 => ?_) (fun hb_54 => ?_)
        · refine g_iinc1 d_Pi_isWord_59 rfl (by decide) ?_
          refine g_goto (tgt := 28) d_Pi_isWord_62 (by decide) ?_
          refine ih (fun z hz => ?_)
          by_cases e : z = j
          · rw [e]; exact hb_54
          · exact hall z (by omega)
        · refine g_iconst (v := nI 0) d_Pi_isWord_57 (by decide) ?_
          refine g_Fa (b := wd n ts a i) ?_ ?_
          · cases e : wd n ts a i with
            | false => rfl
            | true =>
              simp only [wd, Bool.and_eq_true, decide_eq_true_eq] at e
              exact absurd (e.2.2 j hj) hb_54
          exact g_ireturn rfl (by first | rfl | exact bI_nar _) (by omega) (by omega) d_Pi_isWord_58 ⟨rfl, rfl, rfl⟩
    · refine g_iconst (v := nI 0) d_Pi_isWord_24 (by decide) ?_
      refine g_Fa (b := wd n ts a i) (by unfold wd; rw [decide_eq_false hb_21]; simp) ?_
      exact g_ireturn rfl (by first | rfl | exact bI_nar _) (by omega) (by omega) d_Pi_isWord_25 ⟨rfl, rfl, rfl⟩
theorem k_Pi_init (h : M P = some (.inr (2, [.null, .int 0, .int 0, .int 0]))) (ht : M t = some (.inr (1, [.ref (t + 1), .int (nI 0)]))) : Ctr l E y_Pi_init 1 [.ref P, .ref t] N M 0 0 (g_ret (fun v N' M' => v = none ∧ N' = N ∧ M' P = some (.inr (2, [.ref t, .int 0, .int 0, .int 0])) ∧ ∀ x, x ≠ P → M' x = M x)) := by
  refine ctr_of [some (.ref P), some (.ref t)] (by decide) w_58 rfl rfl (Nat.le_of_ble_eq_true rfl) (fun Γ => ?_)
  refine g_aload_n d_Pi_init_0 rfl ?_
  refine g_objInit w_59 m_objI m_objC (by omega) (Nat.le_of_ble_eq_true rfl) d_Pi_init_1 ?_
  refine g_aload_n d_Pi_init_4 rfl ?_
  refine g_aload_n d_Pi_init_5 rfl ?_
  refine g_putF p_Pi_9 rfl (by assumption) (Nat.le_of_ble_eq_true rfl) rfl rfl d_Pi_init_6 ?_
  refine g_nm (fun M1 e1 f1 => ?_)
  exact g_return rfl (by omega) (by omega) d_Pi_init_9 ⟨_, rfl, rfl, rfl, e1, f1⟩
end PIECES

