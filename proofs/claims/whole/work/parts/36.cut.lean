/-! cuts: a value comes among the rows -/
def cin1 (n : Nat) (st : Nat → Nat) (v top : Nat) : Nat := if (rk st v n n < n ∧ st (rk st v n n) = v) ∨ top ≤ v then n else n + 1
def cin2 (n : Nat) (st : Nat → Nat) (v top : Nat) : Nat → Nat := if (rk st v n n < n ∧ st (rk st v n n) = v) ∨ top ≤ v then st else fun j => if j < rk st v n n then st j else if j = rk st v n n then v else st (j - 1)
theorem rk_at {st : Nat → Nat} {v n r : Nat} (hr : r ≤ n) (h1 : ∀ k, k < r → st k < v) (h2 : r < n → ¬ st r < v) : rk st v n n = r := by
  obtain ⟨a, b, c, d⟩ := rk_spec st v n n (Nat.le_refl _)
  rcases Nat.lt_trichotomy (rk st v n n) r with h | h | h
  · exact absurd (h1 _ h) (d (by omega))
  · exact h
  · exact absurd (c r (by omega) h) (h2 (by omega))
theorem rows_mono {st : Nat → Nat} {n top : Nat} (h : rows_ok st n top) : ∀ {i j : Nat}, i < j → j < n → st i < st j := by
  intro i j hij hj
  obtain ⟨h0, hn, hi, ht⟩ := h
  induction j with
  | zero => omega
  | succ j ih =>
    have h1 := hi j hj
    by_cases e : i = j
    · subst e; exact h1
    · have := ih (by omega) (by omega)
      omega
theorem rows_top {st : Nat → Nat} {n top : Nat} (h : rows_ok st n top) {j : Nat} (hj : j < n) : st j < top := by
  by_cases e : j = n - 1
  · rw [e]; exact h.2.2.2
  · have := rows_mono h (show j < n - 1 by omega) (by omega)
    have := h.2.2.2
    omega
theorem cin_ok {st : Nat → Nat} {n top v : Nat} (h : rows_ok st n top) : rows_ok (cin2 n st v top) (cin1 n st v top) top := by
  unfold cin1 cin2
  by_cases c : (rk st v n n < n ∧ st (rk st v n n) = v) ∨ top ≤ v
  · rw [if_pos c, if_pos c]; exact h
  · rw [if_neg c, if_neg c]
    have hm := fun {i j : Nat} => rows_mono h (i := i) (j := j)
    have ht := fun {j : Nat} => rows_top h (j := j)
    obtain ⟨h0, hn, hi, ht2⟩ := h
    obtain ⟨a, b, cc, d⟩ := rk_spec st v n n (Nat.le_refl _)
    generalize rk st v n n = r at *
    have hr0 : 0 < r := by
      rcases Nat.eq_zero_or_pos r with e | e
      · exfalso
        subst e
        have := d hn
        rw [h0] at this
        refine c (Or.inl ⟨hn, ?_⟩)
        omega
      · exact e
    have hv : r < n → v < st r := fun hr => by
      have h1 := d hr
      have h2 : st r ≠ v := fun e => c (Or.inl ⟨hr, e⟩)
      omega
    refine ⟨?_, by omega, fun k hk => ?_, ?_⟩
    · show (if 0 < r then st 0 else _) = 0
      rw [if_pos hr0]; exact h0
    · show (if k < r then st k else if k = r then v else st (k - 1)) < (if k + 1 < r then st (k + 1) else if k + 1 = r then v else st (k + 1 - 1))
      by_cases c1 : k + 1 < r
      · rw [if_pos (by omega), if_pos c1]
        exact hi k (by omega)
      · by_cases c2 : k + 1 = r
        · rw [if_pos (by omega), if_neg c1, if_pos c2]
          exact cc k (by omega) (by omega)
        · rw [if_neg (by omega), if_neg c1, if_neg c2]
          by_cases c3 : k = r
          · rw [if_pos c3, Nat.add_sub_cancel, c3]
            exact hv (by omega)
          · rw [if_neg c3, Nat.add_sub_cancel]
            exact hm (by omega) (by omega)
    · show (if n + 1 - 1 < r then st (n + 1 - 1) else if n + 1 - 1 = r then v else st (n + 1 - 1 - 1)) < top
      rw [Nat.add_sub_cancel, if_neg (by omega)]
      by_cases c1 : n = r
      · rw [if_pos c1]; omega
      · rw [if_neg c1]; exact ht2
/-- which values start a row -/
theorem cin_mem {st : Nat → Nat} {n top v : Nat} (x : Nat) : (∃ j, j < cin1 n st v top ∧ cin2 n st v top j = x) ↔ ((∃ j, j < n ∧ st j = x) ∨ (x = v ∧ v < top)) := by
  unfold cin1 cin2
  by_cases c : (rk st v n n < n ∧ st (rk st v n n) = v) ∨ top ≤ v
  · rw [if_pos c, if_pos c]
    constructor
    · exact Or.inl
    · intro h
      rcases h with h | ⟨h1, h2⟩
      · exact h
      · rcases c with c | c
        · exact ⟨_, c.1, c.2.trans h1.symm⟩
        · omega
  · rw [if_neg c, if_neg c]
    obtain ⟨a, b, cc, d⟩ := rk_spec st v n n (Nat.le_refl _)
    generalize rk st v n n = r at *
    constructor
    · intro ⟨j, hj, hx⟩
      have hx : (if j < r then st j else if j = r then v else st (j - 1)) = x := hx
      by_cases c1 : j < r
      · rw [if_pos c1] at hx
        exact Or.inl ⟨j, by omega, hx⟩
      · rw [if_neg c1] at hx
        by_cases c2 : j = r
        · rw [if_pos c2] at hx
          exact Or.inr ⟨hx.symm, by omega⟩
        · rw [if_neg c2] at hx
          exact Or.inl ⟨j - 1, by omega, hx⟩
    · intro h
      rcases h with ⟨j, hj, hx⟩ | ⟨h1, h2⟩
      · by_cases c1 : j < r
        · refine ⟨j, by omega, ?_⟩
          show (if j < r then st j else if j = r then v else st (j - 1)) = x
          rw [if_pos c1]; exact hx
        · refine ⟨j + 1, by omega, ?_⟩
          show (if j + 1 < r then st (j + 1) else if j + 1 = r then v else st (j + 1 - 1)) = x
          rw [if_neg (by omega), if_neg (by omega), Nat.add_sub_cancel]; exact hx
      · refine ⟨r, by omega, ?_⟩
        show (if r < r then st r else if r = r then v else st (r - 1)) = x
        rw [if_neg (by omega), if_pos rfl]; exact h1.symm
theorem cin1_le (n : Nat) (st : Nat → Nat) (v top : Nat) : n ≤ cin1 n st v top ∧ cin1 n st v top ≤ n + 1 := by
  unfold cin1
  split <;> omega
/-- the cuts of a field by the first i rules, from rows that stand -/
def cfn (rs : Nat → Rl) (f : Nat) (c : Nat × (Nat → Nat)) : Nat → Nat × (Nat → Nat)
  | 0 => c
  | i + 1 =>
    let a := cfn rs f c i
    let b := (cin1 a.1 a.2 ((rs i).2.1 f) (mst f + 1), cin2 a.1 a.2 ((rs i).2.1 f) (mst f + 1))
    (cin1 b.1 b.2 ((rs i).2.2 f + 1) (mst f + 1), cin2 b.1 b.2 ((rs i).2.2 f + 1) (mst f + 1))
theorem cfn_ok {rs : Nat → Rl} {f : Nat} {c : Nat × (Nat → Nat)} (h : rows_ok c.2 c.1 (mst f + 1)) : ∀ i, rows_ok (cfn rs f c i).2 (cfn rs f c i).1 (mst f + 1) ∧ (cfn rs f c i).1 ≤ c.1 + 2 * i := by
  intro i
  induction i with
  | zero => exact ⟨h, by show c.1 ≤ _; omega⟩
  | succ i ih =>
    refine ⟨cin_ok (cin_ok ih.1), ?_⟩
    show cin1 _ _ _ _ ≤ _
    have h1 := (cin1_le (cfn rs f c i).1 (cfn rs f c i).2 ((rs i).2.1 f) (mst f + 1)).2
    have h2 := (cin1_le (cin1 (cfn rs f c i).1 (cfn rs f c i).2 ((rs i).2.1 f) (mst f + 1)) (cin2 (cfn rs f c i).1 (cfn rs f c i).2 ((rs i).2.1 f) (mst f + 1)) ((rs i).2.2 f + 1) (mst f + 1)).2
    refine Nat.le_trans h2 ?_
    omega
/-- a cut at c: field f, room for cap rows, n rows st, their sets ss -/
def o_cut (E : gE) (M : gM) (c f cap n : Nat) (st ss : Nat → Nat) : Prop :=
  M c = some (.inr (6, [.int (nI f), .ref (c + 1), .ref (c + 2), .int (nI n)])) ∧ f < 4 ∧ n ≤ cap ∧ cap ≤ 33 ∧ rows_ok st n (mst f + 1) ∧
  (∃ fs, M (c + 1) = some (g_ia E cap fs) ∧ ∀ j, j < n → fs j = nI (st j)) ∧ ∃ fz, M (c + 2) = some (g_ia E cap fz) ∧ ∀ j, j < cap → fz j = nI (ss j)
theorem o_cut.kept {E : gE} {M M' : gM} {c f cap n : Nat} {st ss : Nat → Nat} (h : o_cut E M c f cap n st ss) (hk : ∀ x, c ≤ x → x ≤ c + 2 → M' x = M x) : o_cut E M' c f cap n st ss := by
  obtain ⟨h1, h2, h3, h4, h5, ⟨fs, h6, h7⟩, fz, h8, h9⟩ := h
  exact ⟨(hk _ (by omega) (by omega)).trans h1, h2, h3, h4, h5, ⟨fs, (hk _ (by omega) (by omega)).trans h6, h7⟩, fz, (hk _ (by omega) (by omega)).trans h8, h9⟩
section CUT
variable {l : Launch} {E : gE} {N : Nat} {M : gM} {c f cap n : Nat} {st ss : Nat → Nat}
theorem k_Cu_size (h : o_cut E M c f cap n st ss) : Ctr l E y_Cu_size 0 [.ref c] N M 0 0 (g_val (some (.int (nI n))) N M) := by
  obtain ⟨h1, -⟩ := h
  refine ctr_of [some (.ref c)] (by decide) w_306 rfl rfl (Nat.le_of_ble_eq_true rfl) (fun Γ => ?_)
  refine g_aload_n d_Cu_size_0 rfl ?_
  refine g_get f_Cu_20 (by assumption) rfl d_Cu_size_1 ?_
  exact g_ireturn rfl (by first | rfl | exact bI_nar _) (by omega) (by omega) d_Cu_size_4 ⟨rfl, rfl, rfl⟩
theorem k_Cu_start (h : o_cut E M c f cap n st ss) (j : Nat) (hj : j < n) : Ctr l E y_Cu_start 0 [.ref c, .int (nI j)] N M 0 0 (g_val (some (.int (nI (st j)))) N M) := by
  obtain ⟨h1, h2, h3, h4, h5, ⟨fs, h6, h7⟩, fz, h8, h9⟩ := h
  refine ctr_of [some (.ref c), some (.int (nI j))] (by decide) w_837 rfl rfl (Nat.le_of_ble_eq_true rfl) (fun Γ => ?_)
  refine g_aload_n d_Cu_start_0 rfl ?_
  refine g_get f_Cu_13 (by assumption) rfl d_Cu_start_1 ?_
  refine g_iload_n d_Cu_start_4 rfl ?_
  refine g_iald _ (by assumption) rfl (by omega) (by omega) d_Cu_start_5 ?_
  refine g_eqi (h7 j hj) ?_
  exact g_ireturn rfl (by first | rfl | exact bI_nar _) (by omega) (by omega) d_Cu_start_6 ⟨rfl, rfl, rfl⟩
theorem k_Cu_set (h : o_cut E M c f cap n st ss) (j : Nat) (hj : j < n) : Ctr l E y_Cu_set 0 [.ref c, .int (nI j)] N M 0 0 (g_val (some (.int (nI (ss j)))) N M) := by
  obtain ⟨h1, h2, h3, h4, h5, ⟨fs, h6, h7⟩, fz, h8, h9⟩ := h
  refine ctr_of [some (.ref c), some (.int (nI j))] (by decide) w_310 rfl rfl (Nat.le_of_ble_eq_true rfl) (fun Γ => ?_)
  refine g_aload_n d_Cu_set_0 rfl ?_
  refine g_get f_Cu_17 (by assumption) rfl d_Cu_set_1 ?_
  refine g_iload_n d_Cu_set_4 rfl ?_
  refine g_iald _ (by assumption) rfl (by omega) (by omega) d_Cu_set_5 ?_
  refine g_eqi (h9 j (by omega)) ?_
  exact g_ireturn rfl (by first | rfl | exact bI_nar _) (by omega) (by omega) d_Cu_set_6 ⟨rfl, rfl, rfl⟩
theorem k_Cu_width (h : o_cut E M c f cap n st ss) (j : Nat) (hj : j < n) : Ctr l E y_Cu_width 1 [.ref c, .int (nI j)] N M 0 0 (g_val (some (.int (nI (enr st n (mst f + 1) j - st j)))) N M) := by
  obtain ⟨h1, h2, h3, h4, h5, ⟨fs, h6, h7⟩, fz, h8, h9⟩ := h
  have hlt := rows_lt h5 hj
  refine ctr_of [some (.ref c), some (.int (nI j)), none] (by decide) w_314 rfl rfl (Nat.le_of_ble_eq_true rfl) (fun Γ => ?_)
  refine g_iload_n d_Cu_width_0 rfl ?_
  refine g_iconst (v := nI 1) d_Cu_width_1 (by decide) ?_
  refine g_iadd d_Cu_width_2 ?_
  refine g_eqi (nI_add _ _) ?_
  refine g_aload_n d_Cu_width_3 rfl ?_
  refine g_get f_Cu_20 (by assumption) rfl d_Cu_width_4 ?_
  refine g_icmpN_ge (tgt := 21) d_Cu_width_7 (by decide) (by omega) (by omega) (fun hb_7 => ?_) (fun hb_7 => ?_)
  · have e0 : enr st n (mst f + 1) j = mst f + 1 := if_neg (by omega)
    rw [e0] at hlt ⊢
    refine g_aload_n d_Cu_width_21 rfl ?_
    refine g_get f_Cu_7 (by assumption) rfl d_Cu_width_22 ?_
    refine g_callSN sn_Cu_55 sv_RD_greatestOf (g_of_val (k_RD_greatestOf f h2)) (by omega) rfl (by omega) (by omega) rfl (Nat.le_of_ble_eq_true rfl) d_Cu_width_25 ?_
    rintro _ _ _ ⟨rfl, rfl, rfl⟩
    refine g_iconst (v := nI 1) d_Cu_width_28 (by decide) ?_
    refine g_iadd d_Cu_width_29 ?_
    refine g_eqi (nI_add _ _) ?_
    refine g_istore_n d_Cu_width_30 (by decide) ?_
    refine g_iload_n d_Cu_width_31 rfl ?_
    refine g_aload_n d_Cu_width_32 rfl ?_
    refine g_get f_Cu_13 (by assumption) rfl d_Cu_width_33 ?_
    refine g_iload_n d_Cu_width_36 rfl ?_
    refine g_iald _ (by assumption) rfl (by omega) (by omega) d_Cu_width_37 ?_
    refine g_eqi (h7 j hj) ?_
    refine g_isub d_Cu_width_38 ?_
    refine g_eqi (pk_sub (by omega)) ?_
    exact g_ireturn rfl (by first | rfl | exact bI_nar _) (by omega) (by omega) d_Cu_width_39 ⟨rfl, rfl, rfl⟩
  · have e0 : enr st n (mst f + 1) j = st (j + 1) := if_pos (by omega)
    rw [e0] at hlt ⊢
    refine g_aload_n d_Cu_width_10 rfl ?_
    refine g_get f_Cu_13 (by assumption) rfl d_Cu_width_11 ?_
    refine g_iload_n d_Cu_width_14 rfl ?_
    refine g_iconst (v := nI 1) d_Cu_width_15 (by decide) ?_
    refine g_iadd d_Cu_width_16 ?_
    refine g_eqi (nI_add _ _) ?_
    refine g_iald _ (by assumption) rfl (by omega) (by omega) d_Cu_width_17 ?_
    refine g_eqi (h7 _ (by omega)) ?_
    refine g_goto (tgt := 30) d_Cu_width_18 (by decide) ?_
    refine g_istore_n d_Cu_width_30 (by decide) ?_
    refine g_iload_n d_Cu_width_31 rfl ?_
    refine g_aload_n d_Cu_width_32 rfl ?_
    refine g_get f_Cu_13 (by assumption) rfl d_Cu_width_33 ?_
    refine g_iload_n d_Cu_width_36 rfl ?_
    refine g_iald _ (by assumption) rfl (by omega) (by omega) d_Cu_width_37 ?_
    refine g_eqi (h7 j hj) ?_
    refine g_isub d_Cu_width_38 ?_
    refine g_eqi (pk_sub (by omega)) ?_
    exact g_ireturn rfl (by first | rfl | exact bI_nar _) (by omega) (by omega) d_Cu_width_39 ⟨rfl, rfl, rfl⟩
theorem k_Arr_fill {a nn : Nat} {f0 : Nat → Int32} (h : M a = some (g_ia E nn f0)) (hn : nn < 2 ^ 31) (v : Int32) : Ctr l E y_Arr_fill 0 [.ref a, .int v] N M 0 0 (g_ret (fun w N' M' => w = none ∧ N' = N ∧ (∃ fd, M' a = some (g_ia E nn fd) ∧ ∀ j, j < nn → fd j = v) ∧ ∀ x, x ≠ a → M' x = M x)) := by
  refine ctr_of [some (.ref a), some (.int v), none, none] (by decide) w_226 rfl rfl (Nat.le_of_ble_eq_true rfl) (fun Γ => ?_)
  refine g_iconst (v := nI 0) d_Arr_fill_0 (by decide) ?_
  refine g_istore_n d_Arr_fill_1 (by decide) ?_
  refine g_aload_n d_Arr_fill_2 rfl ?_
  refine g_alen (t := 0) (by assumption) rfl d_Arr_fill_3 ?_
  refine g_istore_n d_Arr_fill_4 (by decide) ?_
  refine g_for (P := fun i => ∀ M1 : gM, (∃ fd, M1 a = some (g_ia E nn fd) ∧ ∀ j, j < i → fd j = v) → (∀ x, x ≠ a → M1 x = M x) → G _ _ _ _ _ _ _ _ _ _ _ _ 5 [some (.ref a), some (.int v), some (.int (nI i)), some (.int (nI nn))] [] N M1 0 0) (e := nn) ?_ ?_ 0 (by omega) M ⟨f0, h, fun j hj => by omega⟩ (fun _ _ => rfl)
  · intro M1 hd hfr
    refine g_iload_n d_Arr_fill_5 rfl ?_
    refine g_iload_n d_Arr_fill_6 rfl ?_
    refine g_icmpN_ge (tgt := 20) d_Arr_fill_7 (by decide) (by omega) (by omega) (fun hb_7 => ?_) (fun hb_7 => ?_)
    · exact g_return rfl (by omega) (by omega) d_Arr_fill_20 ⟨_, rfl, rfl, rfl, hd, hfr⟩
    · omega
  · rintro i hi ih M1 ⟨fd, d1, d2⟩ hfr
    refine g_iload_n d_Arr_fill_5 rfl ?_
    refine g_iload_n d_Arr_fill_6 rfl ?_
    refine g_icmpN_ge (tgt := 20) d_Arr_fill_7 (by decide) (by omega) (by omega) (fun hb_7 => ?_) (fun hb_7 => ?_)
    · omega
    refine g_aload_n d_Arr_fill_10 rfl ?_
    refine g_iload_n d_Arr_fill_11 rfl ?_
    refine g_iload_n d_Arr_fill_12 rfl ?_
    refine g_iast _ (by assumption) rfl (by omega) hn d_Arr_fill_13 ?_
    refine g_nm (fun M2 e2 f2 => ?_)
    refine g_iinc1 d_Arr_fill_14 rfl (by decide) ?_
    refine g_goto (tgt := 5) d_Arr_fill_17 (by decide) ?_
    refine ih M2 ⟨_, e2, fun j hj => ?_⟩ (fun x hx => (f2 x hx).trans (hfr x hx))
    by_cases e : j = i
    · rw [e, pk_us]
    · rw [pk_un e]; exact d2 j (by omega)
theorem k_Cu_clear (h : o_cut E M c f cap n st ss) : Ctr l E y_Cu_clear 1 [.ref c] N M 0 0 (g_ret (fun w N' M' => w = none ∧ N' = N ∧ o_cut E M' c f cap 1 st (fun _ => 0) ∧ ∀ x, x ≠ c → x ≠ c + 2 → M' x = M x)) := by
  obtain ⟨h1, h2, h3, h4, h5, ⟨fs, h6, h7⟩, fz, h8, h9⟩ := h
  have hn := h5.2.1
  refine ctr_of [some (.ref c)] (by decide) w_223 rfl rfl (Nat.le_of_ble_eq_true rfl) (fun Γ => ?_)
  refine g_aload_n d_Cu_clear_0 rfl ?_
  refine g_iconst (v := nI 1) d_Cu_clear_1 (by decide) ?_
  refine g_put p_Cu_20 (by assumption) (Nat.le_of_ble_eq_true rfl) rfl rfl d_Cu_clear_2 ?_
  refine g_nm (fun M1 e1 f1 => ?_)
  have h8' := (f1 (c + 2) (by omega)).trans h8
  refine g_aload_n d_Cu_clear_5 rfl ?_
  refine g_get f_Cu_17 (by assumption) rfl d_Cu_clear_6 ?_
  refine g_iconst (v := nI 0) d_Cu_clear_9 (by decide) ?_
  refine g_callS s_Cu_23 sv_Arr_fill (k_Arr_fill h8' (by omega) (nI 0)) (by omega) rfl (by omega) (by omega) rfl (Nat.le_of_ble_eq_true rfl) d_Cu_clear_10 ?_
  rintro w N' M2 ⟨rfl, rfl, ⟨fd, d1, d2⟩, f2⟩
  refine g_return rfl (by omega) (by omega) d_Cu_clear_13 ⟨_, rfl, rfl, rfl, ⟨(f2 c (by omega)).trans e1, h2, by omega, h4, ⟨h5.1, by omega, fun k hk => by omega, by rw [h5.1]; omega⟩, ⟨fs, (f2 _ (by omega)).trans ((f1 _ (by omega)).trans h6), fun j hj => h7 j (by omega)⟩, fd, d1, d2⟩, fun x x1 x2 => (f2 x x2).trans (f1 x x1)⟩
/-- what is left of startRow once the row is found -/
theorem k_Cu_ins {Γ : gT} {Q : Outcome → Nat → gM → Prop} {w : Option Value} (h : o_cut E M c f cap n st ss) (v r : Nat) (hv : v ≤ 1024) (hcap : n < cap) (hr : r ≤ n) (hr1 : ∀ j, j < r → st j < v) (hr2 : r < n → ¬ st r < v)
    (hQ : ∀ M', o_cut E M' c f cap (cin1 n st v (mst f + 1)) (cin2 n st v (mst f + 1)) ss → (∀ x, x ≠ c → x ≠ c + 1 → M' x = M x) → Q (.returned none) N M') : G l E y_Cu_startRow c_Cu_startRow 4 none [] 1 Q 0 0 Γ 26 [some (.ref c), some (.int (nI v)), some (.int (nI r)), w] [] N M 0 0 := by
  have h0 := h
  have er := rk_at hr hr1 hr2
  obtain ⟨h1, h2, h3, h4, h5, ⟨fs, h6, h7⟩, fz, h8, h9⟩ := h
  have hst : ∀ j, j < n → st j < 1025 := fun j hj => by
    have := rows_top h5 hj
    have := mst_lt f
    omega
  have hml := mst_lt f
  have hsame : ((rk st v n n < n ∧ st (rk st v n n) = v) ∨ mst f + 1 ≤ v) → o_cut E M c f cap (cin1 n st v (mst f + 1)) (cin2 n st v (mst f + 1)) ss := fun hh => by
    unfold cin1 cin2
    rw [if_pos hh, if_pos hh]
    exact h0
  have rest : ∀ w2, ¬ (r < n ∧ st r = v) → G l E y_Cu_startRow c_Cu_startRow 4 none [] 1 Q 0 0 Γ 54 [some (.ref c), some (.int (nI v)), some (.int (nI r)), w2] [] N M 0 0 := by
    intro w2 hne
    refine g_iload_n d_Cu_startRow_54 rfl ?_
    refine g_aload_n d_Cu_startRow_55 rfl ?_
    refine g_get f_Cu_7 (by assumption) rfl d_Cu_startRow_56 ?_
    refine g_callSN sn_Cu_55 sv_RD_greatestOf (g_of_val (k_RD_greatestOf f h2)) (by omega) rfl (by omega) (by omega) rfl (Nat.le_of_ble_eq_true rfl) d_Cu_startRow_59 ?_
    rintro _ _ _ ⟨rfl, rfl, rfl⟩
    refine g_icmpN_gt (tgt := 77) d_Cu_startRow_62 (by decide) (by omega) (by omega) (fun hb_62 => ?_) (fun hb_62 => ?_)
    · exact g_return rfl (by omega) (by omega) d_Cu_startRow_77 (hQ M (hsame (Or.inr (by omega))) (fun _ _ _ => rfl))
    refine g_aload_n d_Cu_startRow_65 rfl ?_
    refine g_get f_Cu_20 (by assumption) rfl d_Cu_startRow_66 ?_
    refine g_aload_n d_Cu_startRow_69 rfl ?_
    refine g_get f_Cu_13 (by assumption) rfl d_Cu_startRow_70 ?_
    refine g_alen (t := 0) (by assumption) rfl d_Cu_startRow_73 ?_
    refine g_icmpN_lt (tgt := 78) d_Cu_startRow_74 (by decide) (by omega) (by omega) (fun hb_74 => ?_) (fun hb_74 => ?_)
    · have hcin : ¬ ((rk st v n n < n ∧ st (rk st v n n) = v) ∨ mst f + 1 ≤ v) := by rw [er]; omega
      refine g_aload_n d_Cu_startRow_78 rfl ?_
      refine g_get f_Cu_13 (by assumption) rfl d_Cu_startRow_79 ?_
      refine g_iload_n d_Cu_startRow_82 rfl ?_
      refine g_aload_n d_Cu_startRow_83 rfl ?_
      refine g_get f_Cu_13 (by assumption) rfl d_Cu_startRow_84 ?_
      refine g_iload_n d_Cu_startRow_87 rfl ?_
      refine g_iconst (v := nI 1) d_Cu_startRow_88 (by decide) ?_
      refine g_iadd d_Cu_startRow_89 ?_
      refine g_eqi (nI_add _ _) ?_
      refine g_aload_n d_Cu_startRow_90 rfl ?_
      refine g_get f_Cu_20 (by assumption) rfl d_Cu_startRow_91 ?_
      refine g_iload_n d_Cu_startRow_94 rfl ?_
      refine g_isub d_Cu_startRow_95 ?_
      refine g_eqi (pk_sub hr) ?_
      refine g_copy (f := fs) r (r + 1) (n - r) (by assumption) (by omega) (by omega) (by omega) w_252 w_254 w_253 w_24 (by decide) (Nat.le_of_ble_eq_true rfl) d_Cu_startRow_96 ?_
      refine g_nm (fun M1 e1 f1 => ?_)
      have h1' := (f1 c (by omega)).trans h1
      refine g_aload_n d_Cu_startRow_99 rfl ?_
      refine g_get f_Cu_13 (by assumption) rfl d_Cu_startRow_100 ?_
      refine g_iload_n d_Cu_startRow_103 rfl ?_
      refine g_iload_n d_Cu_startRow_104 rfl ?_
      refine g_iast _ (by assumption) rfl (by omega) (by omega) d_Cu_startRow_105 ?_
      refine g_nm (fun M2 e2 f2 => ?_)
      have h1'' := (f2 c (by omega)).trans h1'
      refine g_aload_n d_Cu_startRow_106 rfl ?_
      refine g_dup d_Cu_startRow_107 rfl ?_
      refine g_get f_Cu_20 (by assumption) rfl d_Cu_startRow_108 ?_
      refine g_iconst (v := nI 1) d_Cu_startRow_111 (by decide) ?_
      refine g_iadd d_Cu_startRow_112 ?_
      refine g_eqi (nI_add _ _) ?_
      refine g_put p_Cu_20 (by assumption) (Nat.le_of_ble_eq_true rfl) rfl rfl d_Cu_startRow_113 ?_
      refine g_nm (fun M3 e3 f3 => ?_)
      refine g_return rfl (by omega) (by omega) d_Cu_startRow_116 (hQ M3 ?_ (fun x x1 x2 => (f3 x x1).trans ((f2 x x2).trans (f1 x x2))))
      have hok := cin_ok (v := v) h5
      have c1 : cin1 n st v (mst f + 1) = n + 1 := by unfold cin1; rw [if_neg hcin]
      have c2 : ∀ j, cin2 n st v (mst f + 1) j = if j < r then st j else if j = r then v else st (j - 1) := fun j => by unfold cin2; rw [if_neg hcin, er]
      refine ⟨?_, h2, by omega, h4, hok, ⟨_, (f3 _ (by omega)).trans e2, fun j hj => ?_⟩, fz, ?_, h9⟩
      · rw [c1]; exact e3
      · rw [c1] at hj
        rw [c2]
        by_cases d1 : j = r
        · rw [d1, pk_us, if_neg (by omega), if_pos rfl]
        · rw [pk_un d1]
          by_cases d2 : j < r
          · rw [pk_cpy_out (by omega), if_pos d2]
            exact h7 j (by omega)
          · rw [pk_cpy_in (by omega) (by omega), if_neg d2, if_neg d1, show r + (j - (r + 1)) = j - 1 by omega]
            exact h7 _ (by omega)
      · rw [f3 _ (by omega), f2 _ (by omega), f1 _ (by omega)]; exact h8
    · omega
  refine g_iload_n d_Cu_startRow_26 rfl ?_
  refine g_aload_n d_Cu_startRow_27 rfl ?_
  refine g_get f_Cu_20 (by assumption) rfl d_Cu_startRow_28 ?_
  refine g_icmpN_ge (tgt := 48) d_Cu_startRow_31 (by decide) (by omega) (by omega) (fun hb_31 => ?_) (fun hb_31 => ?_)
  · refine g_iconst (v := nI 0) d_Cu_startRow_48 (by decide) ?_
    refine g_istore_n d_Cu_startRow_49 (by decide) ?_
    refine g_iload_n d_Cu_startRow_50 rfl ?_
    first | refine g_ifB_ne (tgt := 77) d_Cu_startRow_51 (by decide) (fun hb_51 => ?_) (fun hb_51 => ?_) | refine g_ifN_ne (tgt := 77) d_Cu_startRow_51 (by decide) (by omega) (fun hb_51 => ?_) (fun hb_51 => ?_)
    · exact absurd rfl hb_51
    exact rest _ (by omega)
  · have hs2 := hst r hb_31
    refine g_aload_n d_Cu_startRow_34 rfl ?_
    refine g_get f_Cu_13 (by assumption) rfl d_Cu_startRow_35 ?_
    refine g_iload_n d_Cu_startRow_38 rfl ?_
    refine g_iald _ (by assumption) rfl (by omega) (by omega) d_Cu_startRow_39 ?_
    refine g_eqi (h7 r hb_31) ?_
    refine g_iload_n d_Cu_startRow_40 rfl ?_
    refine g_icmpN_ne (tgt := 48) d_Cu_startRow_41 (by decide) (by omega) (by omega) (fun hb_41 => ?_) (fun hb_41 => ?_)
    · refine g_iconst (v := nI 0) d_Cu_startRow_48 (by decide) ?_
      refine g_istore_n d_Cu_startRow_49 (by decide) ?_
      refine g_iload_n d_Cu_startRow_50 rfl ?_
      first | refine g_ifB_ne (tgt := 77) d_Cu_startRow_51 (by decide) (fun hb_51 => ?_) (fun hb_51 => ?_) | refine g_ifN_ne (tgt := 77) d_Cu_startRow_51 (by decide) (by omega) (fun hb_51 => ?_) (fun hb_51 => ?_)
      · exact absurd rfl hb_51
      exact rest _ (by omega)
    · refine g_iconst (v := nI 1) d_Cu_startRow_44 (by decide) ?_
      refine g_goto (tgt := 49) d_Cu_startRow_45 (by decide) ?_
      refine g_istore_n d_Cu_startRow_49 (by decide) ?_
      refine g_iload_n d_Cu_startRow_50 rfl ?_
      first | refine g_ifB_ne (tgt := 77) d_Cu_startRow_51 (by decide) (fun hb_51 => ?_) (fun hb_51 => ?_) | refine g_ifN_ne (tgt := 77) d_Cu_startRow_51 (by decide) (by omega) (fun hb_51 => ?_) (fun hb_51 => ?_)
      · exact g_return rfl (by omega) (by omega) d_Cu_startRow_77 (hQ M (hsame (Or.inl (by rw [er]; exact ⟨by omega, by omega⟩))) (fun _ _ _ => rfl))
      · exact absurd hb_51 (by decide)
theorem k_Cu_startRow (h : o_cut E M c f cap n st ss) (v : Nat) (hv : v ≤ 1024) (hcap : n < cap) : Ctr l E y_Cu_startRow 1 [.ref c, .int (nI v)] N M 0 0 (g_ret (fun w N' M' => w = none ∧ N' = N ∧ o_cut E M' c f cap (cin1 n st v (mst f + 1)) (cin2 n st v (mst f + 1)) ss ∧ ∀ x, x ≠ c → x ≠ c + 1 → M' x = M x)) := by
  have h0 := h
  obtain ⟨h1, h2, h3, h4, h5, ⟨fs, h6, h7⟩, fz, h8, h9⟩ := h
  have hst : ∀ j, j < n → st j < 1025 := fun j hj => by
    have := rows_top h5 hj
    have := mst_lt f
    omega
  refine ctr_of [some (.ref c), some (.int (nI v)), none, none] (by decide) w_246 rfl rfl (Nat.le_of_ble_eq_true rfl) (fun Γ => ?_)
  refine g_iconst (v := nI 0) d_Cu_startRow_0 (by decide) ?_
  refine g_istore_n d_Cu_startRow_1 (by decide) ?_
  refine g_for (P := fun i => (∀ j, j < i → st j < v) → G _ _ _ _ _ _ _ _ _ _ _ _ 2 [some (.ref c), some (.int (nI v)), some (.int (nI i)), none] [] N M 0 0) (e := n) ?_ ?_ 0 (by omega) (fun j hj => by omega)
  · intro hn
    refine g_iload_n d_Cu_startRow_2 rfl ?_
    refine g_aload_n d_Cu_startRow_3 rfl ?_
    refine g_get f_Cu_20 (by assumption) rfl d_Cu_startRow_4 ?_
    refine g_icmpN_ge (tgt := 26) d_Cu_startRow_7 (by decide) (by omega) (by omega) (fun hb_7 => ?_) (fun hb_7 => ?_)
    · exact k_Cu_ins h0 v n hv hcap (Nat.le_refl _) hn (fun h => by omega) (fun M' a b => ⟨_, rfl, rfl, rfl, a, b⟩)
    · omega
  · intro i hi ih hn
    have hs2 := hst i hi
    refine g_iload_n d_Cu_startRow_2 rfl ?_
    refine g_aload_n d_Cu_startRow_3 rfl ?_
    refine g_get f_Cu_20 (by assumption) rfl d_Cu_startRow_4 ?_
    refine g_icmpN_ge (tgt := 26) d_Cu_startRow_7 (by decide) (by omega) (by omega) (fun hb_7 => ?_) (fun hb_7 => ?_)
    · omega
    refine g_aload_n d_Cu_startRow_10 rfl ?_
    refine g_get f_Cu_13 (by assumption) rfl d_Cu_startRow_11 ?_
    refine g_iload_n d_Cu_startRow_14 rfl ?_
    refine g_iald _ (by assumption) rfl (by omega) (by omega) d_Cu_startRow_15 ?_
    refine g_eqi (h7 i hi) ?_
    refine g_iload_n d_Cu_startRow_16 rfl ?_
    refine g_icmpN_ge (tgt := 26) d_Cu_startRow_17 (by decide) (by omega) (by omega) (fun hb_17 => ?_) (fun hb_17 => ?_)
    · exact k_Cu_ins h0 v i hv hcap (by omega) hn (fun _ => by omega) (fun M' a b => ⟨_, rfl, rfl, rfl, a, b⟩)
    · refine g_iinc1 d_Cu_startRow_20 rfl (by decide) ?_
      refine g_goto (tgt := 2) d_Cu_startRow_23 (by decide) ?_
      refine ih (fun j hj => ?_)
      by_cases e : j = i
      · rw [e]; exact hb_17
      · exact hn j (by omega)
theorem k_Cu_cutBy {q m : Nat} {rs : Nat → Rl} (h : o_cut E M c f cap n st ss) (hL : o_list E M q m rs) (hcap : n + 2 * m ≤ cap) (hd : q + 25 < c ∨ c + 2 < q) : Ctr l E y_Cu_cutBy 2 [.ref c, .ref q] N M 0 0 (g_ret (fun w N' M' => w = none ∧ N' = N ∧ o_cut E M' c f cap (cfn rs f (n, st) m).1 (cfn rs f (n, st) m).2 ss ∧ ∀ x, x ≠ c → x ≠ c + 1 → M' x = M x)) := by
  have h5 := h.2.2.2.2.1
  have hf := h.2.1
  have hml := mst_lt f
  have hm8 := hL.2.1
  refine ctr_of [some (.ref c), some (.ref q), none] (by decide) w_230 rfl rfl (Nat.le_of_ble_eq_true rfl) (fun Γ => ?_)
  refine g_iconst (v := nI 0) d_Cu_cutBy_0 (by decide) ?_
  refine g_istore_n d_Cu_cutBy_1 (by decide) ?_
  refine g_for (P := fun i => ∀ M1 : gM, o_cut E M1 c f cap (cfn rs f (n, st) i).1 (cfn rs f (n, st) i).2 ss → (∀ x, x ≠ c → x ≠ c + 1 → M1 x = M x) → G _ _ _ _ _ _ _ _ _ _ _ _ 2 [some (.ref c), some (.ref q), some (.int (nI i))] [] N M1 0 0) (e := m) ?_ ?_ 0 (by omega) M h (fun _ _ _ => rfl)
  · intro M1 hc hfr
    have hL1 := hL.kept (M' := M1) (fun x a b => hfr x (by omega) (by omega))
    have hL1a := hL1.1
    refine g_iload_n d_Cu_cutBy_2 rfl ?_
    refine g_aload_n d_Cu_cutBy_3 rfl ?_
    refine g_callV s_Cu_29 sv_RL_size (by assumption) rfl (g_of_val (k_RL_size hL1)) (by omega) rfl (by omega) (by omega) rfl (Nat.le_of_ble_eq_true rfl) d_Cu_cutBy_4 ?_
    rintro _ _ _ ⟨rfl, rfl, rfl⟩
    refine g_icmpN_ge (tgt := 48) d_Cu_cutBy_7 (by decide) (by omega) (by omega) (fun hb_7 => ?_) (fun hb_7 => ?_)
    · exact g_return rfl (by omega) (by omega) d_Cu_cutBy_48 ⟨_, rfl, rfl, rfl, hc, hfr⟩
    · omega
  · intro i hi ih M1 hc hfr
    have hb := cfn_ok (rs := rs) (f := f) (c := (n, st)) h5 i
    have hb2 : (cfn rs f (n, st) i).1 ≤ n + 2 * i := hb.2
    have hL1 := hL.kept (M' := M1) (fun x a b => hfr x (by omega) (by omega))
    have hL1a := hL1.1
    have ho := hL.2.2.1 i hi
    have ho2 := ho.2 f hf
    obtain ⟨a, ha1, ha2, ha3, ha4⟩ := k_RL_at (l := l) (N := N) hL1 i (by omega)
    have ha5 := ha1.1
    have hca := hc.1
    refine g_iload_n d_Cu_cutBy_2 rfl ?_
    refine g_aload_n d_Cu_cutBy_3 rfl ?_
    refine g_callV s_Cu_29 sv_RL_size (by assumption) rfl (g_of_val (k_RL_size hL1)) (by omega) rfl (by omega) (by omega) rfl (Nat.le_of_ble_eq_true rfl) d_Cu_cutBy_4 ?_
    rintro _ _ _ ⟨rfl, rfl, rfl⟩
    refine g_icmpN_ge (tgt := 48) d_Cu_cutBy_7 (by decide) (by omega) (by omega) (fun hb_7 => ?_) (fun hb_7 => ?_)
    · omega
    refine g_aload_n d_Cu_cutBy_10 rfl ?_
    refine g_aload_n d_Cu_cutBy_11 rfl ?_
    refine g_iload_n d_Cu_cutBy_12 rfl ?_
    refine g_callV s_Cu_34 sv_RL_at (by assumption) rfl (g_of_val (ha4)) (by omega) rfl (by omega) (by omega) rfl (Nat.le_of_ble_eq_true rfl) d_Cu_cutBy_13 ?_
    rintro _ _ _ ⟨rfl, rfl, rfl⟩
    refine g_aload_n d_Cu_cutBy_16 rfl ?_
    refine g_get f_Cu_7 (by assumption) rfl d_Cu_cutBy_17 ?_
    refine g_callV s_Cu_38 sv_Ru_leastOf (by assumption) rfl (g_of_val (k_Ru_leastOf ha1 f hf)) (by omega) rfl (by omega) (by omega) rfl (Nat.le_of_ble_eq_true rfl) d_Cu_cutBy_20 ?_
    rintro _ _ _ ⟨rfl, rfl, rfl⟩
    refine g_callV s_Cu_44 sv_Cu_startRow (by assumption) rfl (k_Cu_startRow hc ((rs i).2.1 f) (by omega) (by omega)) (by omega) rfl (by omega) (by omega) rfl (Nat.le_of_ble_eq_true rfl) d_Cu_cutBy_23 ?_
    rintro w N' M2 ⟨rfl, rfl, hc2, hf2⟩
    have hL2 := hL1.kept (M' := M2) (fun x a b => hf2 x (by omega) (by omega))
    have hL2a := hL2.1
    have hc2a := hc2.1
    obtain ⟨a', hb1, hb3, hb4, hb5⟩ := k_RL_at (l := l) (N := N') hL2 i (by omega)
    have hb6 := hb1.1
    have h7 := (cin1_le (cfn rs f (n, st) i).1 (cfn rs f (n, st) i).2 ((rs i).2.1 f) (mst f + 1)).2
    refine g_aload_n d_Cu_cutBy_26 rfl ?_
    refine g_aload_n d_Cu_cutBy_27 rfl ?_
    refine g_iload_n d_Cu_cutBy_28 rfl ?_
    refine g_callV s_Cu_34 sv_RL_at (by assumption) rfl (g_of_val (hb5)) (by omega) rfl (by omega) (by omega) rfl (Nat.le_of_ble_eq_true rfl) d_Cu_cutBy_29 ?_
    rintro _ _ _ ⟨rfl, rfl, rfl⟩
    refine g_aload_n d_Cu_cutBy_32 rfl ?_
    refine g_get f_Cu_7 (by assumption) rfl d_Cu_cutBy_33 ?_
    refine g_callV s_Cu_48 sv_Ru_behindGreatestOf (by assumption) rfl (g_of_val (k_Ru_behindGreatestOf hb1 f hf)) (by omega) rfl (by omega) (by omega) rfl (Nat.le_of_ble_eq_true rfl) d_Cu_cutBy_36 ?_
    rintro _ _ _ ⟨rfl, rfl, rfl⟩
    refine g_callV s_Cu_44 sv_Cu_startRow (by assumption) rfl (k_Cu_startRow hc2 ((rs i).2.2 f + 1) (by omega) (by omega)) (by omega) rfl (by omega) (by omega) rfl (Nat.le_of_ble_eq_true rfl) d_Cu_cutBy_39 ?_
    rintro w N'' M3 ⟨rfl, rfl, hc3, hf3⟩
    refine g_iinc1 d_Cu_cutBy_42 rfl (by decide) ?_
    refine g_goto (tgt := 2) d_Cu_cutBy_45 (by decide) ?_
    exact ih M3 hc3 (fun x x1 x2 => (hf3 x x1 x2).trans ((hf2 x x1 x2).trans (hfr x x1 x2)))
theorem k_Cu_mark {q m : Nat} {rs : Nat → Rl} (h : o_cut E M c f cap n st ss) (hL : o_list E M q m rs) (b : Nat) (hb : b ≤ 8) (hd : q + 25 < c ∨ c + 2 < q) : Ctr l E y_Cu_mark 2 [.ref c, .ref q, .int (nI b)] N M 0 0 (g_ret (fun w N' M' => w = none ∧ N' = N ∧ (∃ ss', o_cut E M' c f cap n st ss' ∧ ∀ j, j < n → ss' j = ss j ||| ags rs f (st j) m * 2 ^ b) ∧ ∀ x, x ≠ c + 2 → M' x = M x)) := by
  obtain ⟨h1, h2, h3, h4, h5, ⟨fs, h6, h7⟩, fz, h8, h9⟩ := h
  have hm8 := hL.2.1
  have hml := mst_lt f
  refine ctr_of [some (.ref c), some (.ref q), some (.int (nI b)), none] (by decide) w_262 rfl rfl (Nat.le_of_ble_eq_true rfl) (fun Γ => ?_)
  refine g_iconst (v := nI 0) d_Cu_mark_0 (by decide) ?_
  refine g_istore_n d_Cu_mark_1 (by decide) ?_
  refine g_for (P := fun i => ∀ M1 : gM, (∃ s1, (∃ fd, M1 (c + 2) = some (g_ia E cap fd) ∧ ∀ j, j < cap → fd j = nI (s1 j)) ∧ (∀ j, j < i → s1 j = ss j ||| ags rs f (st j) m * 2 ^ b) ∧ ∀ j, i ≤ j → s1 j = ss j) → (∀ x, x ≠ c + 2 → M1 x = M x) → G _ _ _ _ _ _ _ _ _ _ _ _ 2 [some (.ref c), some (.ref q), some (.int (nI b)), some (.int (nI i))] [] N M1 0 0) (e := n) ?_ ?_ 0 (by omega) M ⟨ss, ⟨fz, h8, h9⟩, fun j hj => by omega, fun _ _ => rfl⟩ (fun _ _ => rfl)
  · rintro M1 ⟨s1, ⟨fd, d1, d2⟩, d3, d4⟩ hfr
    have h1' := (hfr c (by omega)).trans h1
    refine g_iload_n d_Cu_mark_2 rfl ?_
    refine g_aload_n d_Cu_mark_3 rfl ?_
    refine g_get f_Cu_20 (by assumption) rfl d_Cu_mark_4 ?_
    refine g_icmpN_ge (tgt := 41) d_Cu_mark_7 (by decide) (by omega) (by omega) (fun hb_7 => ?_) (fun hb_7 => ?_)
    · refine g_return rfl (by omega) (by omega) d_Cu_mark_41 ⟨_, rfl, rfl, rfl, ⟨s1, ⟨h1', h2, h3, h4, h5, ⟨fs, (hfr _ (by omega)).trans h6, h7⟩, fd, d1, d2⟩, d3⟩, hfr⟩
    · omega
  · rintro i hi ih M1 ⟨s1, ⟨fd, d1, d2⟩, d3, d4⟩ hfr
    have h1' := (hfr c (by omega)).trans h1
    have h6' := (hfr _ (by omega)).trans h6
    have hL1 := hL.kept (M' := M1) (fun x a b => hfr x (by omega))
    have hL1a := hL1.1
    have hst := rows_top h5 hi
    have hag := ags_lt rs f (st i) m
    have hpw : 2 ^ m ≤ 2 ^ 8 := Nat.pow_le_pow_right (by omega) hm8
    have hpb : 2 ^ b ≤ 2 ^ 8 := Nat.pow_le_pow_right (by omega) hb
    have hmul : ags rs f (st i) m * 2 ^ b < 2 ^ 32 := by
      have h9 : ags rs f (st i) m * 2 ^ b ≤ 2 ^ 8 * 2 ^ 8 := Nat.mul_le_mul (by omega) hpb
      omega
    refine g_iload_n d_Cu_mark_2 rfl ?_
    refine g_aload_n d_Cu_mark_3 rfl ?_
    refine g_get f_Cu_20 (by assumption) rfl d_Cu_mark_4 ?_
    refine g_icmpN_ge (tgt := 41) d_Cu_mark_7 (by decide) (by omega) (by omega) (fun hb_7 => ?_) (fun hb_7 => ?_)
    · omega
    refine g_aload_n d_Cu_mark_10 rfl ?_
    refine g_get f_Cu_17 (by assumption) rfl d_Cu_mark_11 ?_
    refine g_iload_n d_Cu_mark_14 rfl ?_
    refine g_dup2 d_Cu_mark_15 rfl rfl ?_
    refine g_iald _ (by assumption) rfl (by omega) (by omega) d_Cu_mark_16 ?_
    refine g_eqi (d2 i (by omega)) ?_
    refine g_aload_n d_Cu_mark_17 rfl ?_
    refine g_aload_n d_Cu_mark_18 rfl ?_
    refine g_get f_Cu_7 (by assumption) rfl d_Cu_mark_19 ?_
    refine g_aload_n d_Cu_mark_22 rfl ?_
    refine g_get f_Cu_13 (by assumption) rfl d_Cu_mark_23 ?_
    refine g_iload_n d_Cu_mark_26 rfl ?_
    refine g_iald _ (by assumption) rfl (by omega) (by omega) d_Cu_mark_27 ?_
    refine g_eqi (h7 i hi) ?_
    refine g_callV s_Cu_51 sv_RL_agreeing (by assumption) rfl (g_of_val (k_RL_agreeing hL1 f (st i) h2 (by omega))) (by omega) rfl (by omega) (by omega) rfl (Nat.le_of_ble_eq_true rfl) d_Cu_mark_28 ?_
    rintro _ _ _ ⟨rfl, rfl, rfl⟩
    refine g_iload_n d_Cu_mark_31 rfl ?_
    refine g_ishl d_Cu_mark_32 ?_
    refine g_eqi (nI_shl (by omega) hmul) ?_
    refine g_ior d_Cu_mark_33 ?_
    refine g_eqi (nI_or _ _) ?_
    refine g_iast _ (by assumption) rfl (by omega) (by omega) d_Cu_mark_34 ?_
    refine g_nm (fun M2 e2 f2 => ?_)
    refine g_iinc1 d_Cu_mark_35 rfl (by decide) ?_
    refine g_goto (tgt := 2) d_Cu_mark_38 (by decide) ?_
    refine ih M2 ⟨va_up s1 i (s1 i ||| ags rs f (st i) m * 2 ^ b), ⟨_, e2, fun j hj => ?_⟩, fun j hj => ?_, fun j hj => ?_⟩ (fun x hx => (f2 x hx).trans (hfr x hx))
    · by_cases e : j = i
      · rw [e, va_up_self, pk_us]
      · rw [va_up_ne _ _ e, pk_un e]; exact d2 j hj
    · by_cases e : j = i
      · rw [e, va_up_self, d4 i (Nat.le_refl _)]
      · rw [va_up_ne _ _ e]; exact d3 j (by omega)
    · rw [va_up_ne _ _ (by omega)]
      exact d4 j (by omega)
theorem k_Cu_init {cp : Nat} (h : M c = some (.inr (6, [.int 0, .null, .null, .int 0]))) (hc : c + 1 = N) (hf : f < 4) (hcp : cp ≤ 16) : Ctr l E y_Cu_init 1 [.ref c, .int (nI f), .int (nI cp)] N M 2 (2 * (1 + 2 * cp)) (g_ret (fun v N' M' => v = none ∧ N' = N + 2 ∧ o_cut E M' c f (1 + 2 * cp) 1 (fun _ => 0) (fun _ => 0) ∧ ∀ x, x ≠ c → x ≠ c + 1 → x ≠ c + 2 → M' x = M x)) := by
  refine ctr_of [some (.ref c), some (.int (nI f)), some (.int (nI cp))] (by decide) w_129 rfl rfl (Nat.le_of_ble_eq_true rfl) (fun Γ => ?_)
  refine g_aload_n d_Cu_init_0 rfl ?_
  refine g_objInit w_130 m_objI m_objC (by omega) (Nat.le_of_ble_eq_true rfl) d_Cu_init_1 ?_
  refine g_aload_n d_Cu_init_4 rfl ?_
  refine g_iload_n d_Cu_init_5 rfl ?_
  refine g_putF p_Cu_7 rfl (by assumption) (Nat.le_of_ble_eq_true rfl) rfl rfl d_Cu_init_6 ?_
  refine g_nm (fun M1 e1 f1 => ?_)
  refine g_aload_n d_Cu_init_9 rfl ?_
  refine g_iconst (v := nI 1) d_Cu_init_10 (by decide) ?_
  refine g_iconst (v := nI 2) d_Cu_init_11 (by decide) ?_
  refine g_iload_n d_Cu_init_12 rfl ?_
  refine g_imul d_Cu_init_13 ?_
  refine g_eqi (pk_mul _ _) ?_
  refine g_iadd d_Cu_init_14 ?_
  refine g_eqi (nI_add _ _) ?_
  refine g_newi (1 + 2 * cp) w_90 rfl (by omega) (by omega) (by omega) d_Cu_init_15 ?_
  refine g_nm (fun M2 e2 f2 => ?_)
  have a2 := (f2 c (by omega)).trans e1
  refine g_putF p_Cu_13 rfl (by assumption) (Nat.le_of_ble_eq_true rfl) rfl rfl d_Cu_init_17 ?_
  refine g_nm (fun M3 e3 f3 => ?_)
  refine g_aload_n d_Cu_init_20 rfl ?_
  refine g_iconst (v := nI 1) d_Cu_init_21 (by decide) ?_
  refine g_iconst (v := nI 2) d_Cu_init_22 (by decide) ?_
  refine g_iload_n d_Cu_init_23 rfl ?_
  refine g_imul d_Cu_init_24 ?_
  refine g_eqi (pk_mul _ _) ?_
  refine g_iadd d_Cu_init_25 ?_
  refine g_eqi (nI_add _ _) ?_
  refine g_newi (1 + 2 * cp) w_90 rfl (by omega) (by omega) (by omega) d_Cu_init_26 ?_
  refine g_nm (fun M4 e4 f4 => ?_)
  have a4 := (f4 c (by omega)).trans e3
  refine g_putF p_Cu_17 rfl (by assumption) (Nat.le_of_ble_eq_true rfl) rfl rfl d_Cu_init_28 ?_
  refine g_nm (fun M5 e5 f5 => ?_)
  refine g_aload_n d_Cu_init_31 rfl ?_
  refine g_iconst (v := nI 1) d_Cu_init_32 (by decide) ?_
  refine g_put p_Cu_20 (by assumption) (Nat.le_of_ble_eq_true rfl) rfl rfl d_Cu_init_33 ?_
  refine g_nm (fun M6 e6 f6 => ?_)
  refine g_return rfl (by omega) (by omega) d_Cu_init_36 ⟨_, rfl, rfl, rfl, ⟨?_, hf, by omega, by omega, ⟨rfl, by omega, fun k hk => by omega, by show 0 < mst f + 1; omega⟩, ⟨(fun _ => 0), ?_, fun j hj => rfl⟩, (fun _ => 0), ?_, fun j hj => rfl⟩, fun x x1 x2 x3 => ?_⟩
  · rw [e6, show c + 2 = N + 1 by omega, ← hc]; rfl
  · rw [f6 _ (by omega), f5 _ (by omega), f4 _ (by omega), f3 _ (by omega), hc]; exact e2
  · rw [f6 _ (by omega), f5 _ (by omega), show c + 2 = N + 1 by omega]; exact e4
  · rw [f6 x x1, f5 x x1, f4 x (by omega), f3 x x1, f2 x (by omega), f1 x x1]
end CUT

