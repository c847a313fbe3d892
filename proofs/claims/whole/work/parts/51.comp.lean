/-! both lists set against one another -/
def ag2 (r1 : Nat → Rl) (m1 : Nat) (r2 : Nat → Rl) (m2 f x : Nat) : Nat := ags r1 f x m1 ||| ags r2 f x m2 * 2 ^ 8
def ul (r1 : Nat → Rl) (m1 : Nat) (r2 : Nat → Rl) (m2 : Nat) : Nat → Nat → Nat
  | 0, s => if jds r1 (s % 256) = jds r2 (s / 256) then 0 else 1
  | k + 1, s => sm (fun x => ul r1 m1 r2 m2 k (s &&& ag2 r1 m1 r2 m2 (3 - k) x)) (mst (3 - k) + 1)
def cut2_ok (r1 : Nat → Rl) (m1 : Nat) (r2 : Nat → Rl) (m2 f n : Nat) (st ss : Nat → Nat) : Prop := rows_ok st n (mst f + 1) ∧ ∀ r, r < n → ∀ x, st r ≤ x → x < enr st n (mst f + 1) r → ag2 r1 m1 r2 m2 f x = ss r
theorem ul_zero (r1 : Nat → Rl) (m1 : Nat) (r2 : Nat → Rl) (m2 : Nat) : ∀ k, ul r1 m1 r2 m2 k 0 = 0 := by
  intro k
  induction k with
  | zero => rfl
  | succ k ih =>
    show sm (fun x => ul r1 m1 r2 m2 k (0 &&& ag2 r1 m1 r2 m2 (3 - k) x)) (mst (3 - k) + 1) = 0
    rw [sm_congr (g := fun _ => 0) (fun x _ => by rw [Nat.zero_and]; exact ih), sm_zero]
theorem and_ok {a1 a2 m1 : Nat} (s : Nat) (h1 : a1 < 2 ^ m1) (hm : m1 ≤ 8) : (s &&& (a1 ||| a2 * 2 ^ 8)) % 256 = (s % 256) &&& a1 ∧ (s &&& (a1 ||| a2 * 2 ^ 8)) / 256 = (s / 256) &&& a2 := by
  have hp : 2 ^ m1 ≤ 2 ^ 8 := Nat.pow_le_pow_right (by omega) hm
  have h2 : a1 < 256 := by omega
  constructor
  · rw [show (256 : Nat) = 2 ^ 8 from rfl, Nat.and_mod_two_pow, Nat.or_mod_two_pow, Nat.mul_mod_left, Nat.or_zero, Nat.mod_eq_of_lt (a := a1) h2]
  · rw [show (256 : Nat) = 2 ^ 8 from rfl, Nat.and_div_two_pow, Nat.or_div_two_pow, Nat.mul_div_cancel _ (by decide), Nat.div_eq_of_lt (a := a1) h2, Nat.zero_or]
def pr2 : Nat → Nat
  | 0 => 1
  | k + 1 => pr2 k * (mst (3 - k) + 1)
theorem pr2_le : ∀ k, k < 5 → pr2 k ≤ 268435456 := by decide
theorem ul_le (r1 : Nat → Rl) (m1 : Nat) (r2 : Nat → Rl) (m2 : Nat) : ∀ k s, ul r1 m1 r2 m2 k s ≤ pr2 k := by
  intro k
  induction k with
  | zero =>
    intro s
    show (if _ then 0 else 1) ≤ 1
    split <;> omega
  | succ k ih =>
    intro s
    show sm (fun x => ul r1 m1 r2 m2 k (s &&& ag2 r1 m1 r2 m2 (3 - k) x)) (mst (3 - k) + 1) ≤ pr2 k * (mst (3 - k) + 1)
    have h := sm_le (f := fun x => ul r1 m1 r2 m2 k (s &&& ag2 r1 m1 r2 m2 (3 - k) x)) (g := fun _ => pr2 k) (n := mst (3 - k) + 1) (fun x _ => ih _)
    rw [sm_const, Nat.mul_comm] at h
    exact h
theorem ul_rows {r1 r2 : Nat → Rl} {m1 m2 k n : Nat} {st ss : Nat → Nat} (h : cut2_ok r1 m1 r2 m2 (3 - k) n st ss) (s : Nat) : sm (fun r => ul r1 m1 r2 m2 k (s &&& ss r) * (enr st n (mst (3 - k) + 1) r - st r)) n = ul r1 m1 r2 m2 (k + 1) s := by
  show _ = sm (fun x => ul r1 m1 r2 m2 k (s &&& ag2 r1 m1 r2 m2 (3 - k) x)) (mst (3 - k) + 1)
  rw [← sm_rows (F := fun x => ul r1 m1 r2 m2 k (s &&& ag2 r1 m1 r2 m2 (3 - k) x)) h.1 (fun r hr y h1 h2 => by
    show ul r1 m1 r2 m2 k (s &&& ag2 r1 m1 r2 m2 (3 - k) y) = ul r1 m1 r2 m2 k (s &&& ag2 r1 m1 r2 m2 (3 - k) (st r))
    rw [h.2 r hr y h1 h2, h.2 r hr (st r) (Nat.le_refl _) (rows_lt h.1 hr)])]
  refine sm_congr (fun r hr => ?_)
  show _ = ul r1 m1 r2 m2 k (s &&& ag2 r1 m1 r2 m2 (3 - k) (st r)) * _
  rw [h.2 r hr (st r) (Nat.le_refl _) (rows_lt h.1 hr)]
def o_co (E : gE) (M : gM) (C q1 q2 : Nat) : Prop := M C = some (.inr (8, [.ref q1, .ref q2, .ref (C + 1)])) ∧ ∃ fa, M (C + 1) = some (g_qa E 6 4 fa) ∧ ∀ j, j < 4 → fa j = some (C + 2 + 3 * j)
def o_cC (E : gE) (M : gM) (C : Nat) (cn : Nat → Nat) (cs ct : Nat → Nat → Nat) : Prop := ∀ f, f < 4 → o_cut E M (C + 2 + 3 * f) f 33 (cn f) (cs f) (ct f)
theorem o_co.kept {E : gE} {M M' : gM} {C q1 q2 : Nat} (h : o_co E M C q1 q2) (hk : ∀ x, x = C ∨ x = C + 1 → M' x = M x) : o_co E M' C q1 q2 := by
  obtain ⟨h1, fa, h2, h3⟩ := h
  exact ⟨(hk _ (by omega)).trans h1, fa, (hk _ (by omega)).trans h2, h3⟩
theorem o_cC.kept {E : gE} {M M' : gM} {D : Nat} {cn : Nat → Nat} {cs ct : Nat → Nat → Nat} (h : o_cC E M D cn cs ct) (hk : ∀ x, D + 2 ≤ x → x ≤ D + 13 → M' x = M x) : o_cC E M' D cn cs ct := fun f hf => (h f hf).kept (fun x _ _ => hk x (by omega) (by omega))
section COMP
variable {l : Launch} {E : gE} {N : Nat} {M : gM} {C q1 q2 m1 m2 : Nat} {cn : Nat → Nat} {cs ct : Nat → Nat → Nat} {r1 r2 : Nat → Rl}
theorem jds_lt {q m : Nat} {rs : Nat → Rl} (hR : o_list E M q m rs) {s : Nat} (hs : s < 2 ^ m) : jds rs s < 3 := by
  unfold jds
  split
  · omega
  · exact (hR.2.2.1 _ (lb_n m hR.2.1 s hs (by assumption))).1
theorem k_Co_everyRule : Ctr l E y_Co_everyRule 0 [] N M 0 0 (g_val (some (.int (nI 65535))) N M) := by
  refine ctr_of [] (by decide) w_277 rfl rfl (Nat.le_of_ble_eq_true rfl) (fun Γ => ?_)
  refine g_ldc w_278 d_Co_everyRule_0 ?_
  refine g_eqi (z := nI 65535) (by decide) ?_
  exact g_ireturn rfl (by first | rfl | exact bI_nar _) (by omega) (by omega) d_Co_everyRule_2 ⟨rfl, rfl, rfl⟩
theorem k_Co_judgesUnlike (h : o_co E M C q1 q2) (hA : o_list E M q1 m1 r1) (hB : o_list E M q2 m2 r2) (s : Nat) (hs : s < 65536) (h1 : s % 256 < 2 ^ m1) (h2 : s / 256 < 2 ^ m2) : Ctr l E y_Co_judgesUnlike 3 [.ref C, .int (nI s)] N M 0 0 (g_val (some (.int (bI (decide (jds r1 (s % 256) ≠ jds r2 (s / 256)))))) N M) := by
  obtain ⟨g1, g2⟩ := h
  have hAa := hA.1
  have hBa := hB.1
  have jA := jds_lt hA h1
  have jB := jds_lt hB h2
  refine ctr_of [some (.ref C), some (.int (nI s)), none, none] (by decide) w_285 rfl rfl (Nat.le_of_ble_eq_true rfl) (fun Γ => ?_)
  refine g_iload_n d_Co_judgesUnlike_0 rfl ?_
  refine g_sipush (v := nI 255) d_Co_judgesUnlike_1 (by decide) ?_
  refine g_iand d_Co_judgesUnlike_4 ?_
  refine g_eqi (z := nI (s % 256)) (by rw [nI_and]; exact congrArg nI (Nat.and_two_pow_sub_one_eq_mod s 8)) ?_
  refine g_istore_n d_Co_judgesUnlike_5 (by decide) ?_
  refine g_iload_n d_Co_judgesUnlike_6 rfl ?_
  refine g_bipush (v := nI 8) d_Co_judgesUnlike_7 (by decide) ?_
  refine g_iushr d_Co_judgesUnlike_9 rfl ?_
  refine g_eqi (z := nI (s / 256)) (nI_ushr (by omega) (by omega)) ?_
  refine g_istore_n d_Co_judgesUnlike_10 (by decide) ?_
  refine g_aload_n d_Co_judgesUnlike_11 rfl ?_
  refine g_get f_Co_9 (by assumption) rfl d_Co_judgesUnlike_12 ?_
  refine g_iload_n d_Co_judgesUnlike_15 rfl ?_
  refine g_callV s_Co_71 sv_RL_judgeSet (by assumption) rfl (g_of_val (k_RL_judgeSet hA (s % 256) h1)) (by omega) rfl (by omega) (by omega) rfl (Nat.le_of_ble_eq_true rfl) d_Co_judgesUnlike_16 ?_
  rintro _ _ _ ⟨rfl, rfl, rfl⟩
  refine g_eqi (z := nI (jds r1 (s % 256))) rfl ?_
  refine g_aload_n d_Co_judgesUnlike_19 rfl ?_
  refine g_get f_Co_15 (by assumption) rfl d_Co_judgesUnlike_20 ?_
  refine g_iload_n d_Co_judgesUnlike_23 rfl ?_
  refine g_callV s_Co_71 sv_RL_judgeSet (by assumption) rfl (g_of_val (k_RL_judgeSet hB (s / 256) h2)) (by omega) rfl (by omega) (by omega) rfl (Nat.le_of_ble_eq_true rfl) d_Co_judgesUnlike_24 ?_
  rintro _ _ _ ⟨rfl, rfl, rfl⟩
  refine g_eqi (z := nI (jds r2 (s / 256))) rfl ?_
  refine g_icmpN_eq (tgt := 34) d_Co_judgesUnlike_27 (by decide) (by omega) (by omega) (fun hb_27 => ?_) (fun hb_27 => ?_)
  · refine g_iconst (v := nI 0) d_Co_judgesUnlike_34 (by decide) ?_
    refine g_Fa (b := decide (jds r1 (s % 256) ≠ jds r2 (s / 256))) (decide_eq_false (fun q => q hb_27)) ?_
    exact g_ireturn rfl (by first | rfl | exact bI_nar _) (by omega) (by omega) d_Co_judgesUnlike_35 ⟨rfl, rfl, rfl⟩
  · refine g_iconst (v := nI 1) d_Co_judgesUnlike_30 (by decide) ?_
    refine g_goto (tgt := 35) d_Co_judgesUnlike_31 (by decide) ?_
    refine g_Tr (b := decide (jds r1 (s % 256) ≠ jds r2 (s / 256))) (decide_eq_true hb_27) ?_
    exact g_ireturn rfl (by first | rfl | exact bI_nar _) (by omega) (by omega) d_Co_judgesUnlike_35 ⟨rfl, rfl, rfl⟩
end COMP

