section INIT
variable {l : Launch} {E : gE} {N : Nat} {M : gM} {B : Nat}
theorem k_RD_init (h : M B = some (.inr (0, [.null, .null, .null, .null, .null, .null]))) (hN : B + 1 = N) : Ctr l E y_RD_init 3 [.ref B] N M 151 8000 (g_ret (fun v N' M' => v = none ∧ N' = N + 151 ∧ OA E M' B 0 (fun _ => 0) (fun _ => 0) (fun _ _ => (0, fun _ => 0, fun _ => 0)) 0 (fun _ => 0) ∧ ∀ x, (x < B ∨ B + 151 < x) → M' x = M x)) := by
  subst hN
  refine ctr_of [some (.ref B), none] (by decide) w_30 rfl rfl (Nat.le_of_ble_eq_true rfl) (fun Γ => ?_)
  refine g_aload_n d_RD_init_0 rfl ?_
  refine g_objInit w_31 m_objI m_objC (by omega) (Nat.le_of_ble_eq_true rfl) d_RD_init_1 ?_
  refine g_aload_n d_RD_init_4 rfl ?_
  refine g_new n_RD_9 (by omega) (by omega) d_RD_init_5 ?_
  refine g_nm (fun M1 e1 f1 => ?_)
  have a1 := (f1 B (by omega)).trans h
  refine g_dup d_RD_init_8 rfl ?_
  refine g_callI s_RD_11 sv_Tx_init (k_Tx_init e1 rfl) (by omega) rfl (by omega) (by omega) rfl (Nat.le_of_ble_eq_true rfl) d_RD_init_9 ?_
  rintro v' N' M2 ⟨rfl, rfl, t2, f2⟩
  have a2 := (f2 B (by omega) (by omega)).trans a1
  have t2a := t2.1
  refine g_putF p_RD_12 rfl (by assumption) (Nat.le_of_ble_eq_true rfl) rfl rfl d_RD_init_12 ?_
  refine g_nm (fun M3 e3 f3 => ?_)
  have t3 := t2.kept (M' := M3) (fun x _ _ => f3 x (by omega))
  have t3a := t3.1
  refine g_aload_n d_RD_init_15 rfl ?_
  refine g_new n_RD_16 (by omega) (by omega) d_RD_init_16 ?_
  refine g_nm (fun M4 e4 f4 => ?_)
  have a4 := (f4 B (by omega)).trans e3
  have t4 := t3.kept (M' := M4) (fun x _ _ => f4 x (by omega))
  have t4a := t4.1
  refine g_dup d_RD_init_19 rfl ?_
  refine g_aload_n d_RD_init_20 rfl ?_
  refine g_get f_RD_12 (by assumption) rfl d_RD_init_21 ?_
  refine g_callI s_RD_18 sv_RR_init (k_RR_init e4 rfl t4a (by omega)) (by omega) rfl (by omega) (by omega) rfl (Nat.le_of_ble_eq_true rfl) d_RD_init_24 ?_
  rintro v' N' M5 ⟨rfl, rfl, r1, r2, r3, f5⟩
  have a5 := (f5 B (by omega)).trans a4
  have t5 := t4.kept (M' := M5) (fun x _ _ => f5 x (by omega))
  refine g_putF p_RD_21 rfl (by assumption) (Nat.le_of_ble_eq_true rfl) rfl rfl d_RD_init_27 ?_
  refine g_nm (fun M6 e6 f6 => ?_)
  refine g_aload_n d_RD_init_30 rfl ?_
  refine g_iconst (v := nI 2) d_RD_init_31 (by decide) ?_
  refine g_newq 4 _ rfl w_101 ao_RL rfl (by decide) (by omega) (by omega) d_RD_init_32 ?_
  refine g_nm (fun M7 e7 f7 => ?_)
  have a7 := (f7 B (by omega)).trans e6
  refine g_putF p_RD_27 rfl (by assumption) (Nat.le_of_ble_eq_true rfl) rfl rfl d_RD_init_35 ?_
  refine g_nm (fun M8 e8 f8 => ?_)
  refine g_aload_n d_RD_init_38 rfl ?_
  refine g_iconst (v := nI 2) d_RD_init_39 (by decide) ?_
  refine g_newq 5 _ rfl w_103 ao_Di rfl (by decide) (by omega) (by omega) d_RD_init_40 ?_
  refine g_nm (fun M9 e9 f9 => ?_)
  have a9 := (f9 B (by omega)).trans e8
  refine g_putF p_RD_33 rfl (by assumption) (Nat.le_of_ble_eq_true rfl) rfl rfl d_RD_init_43 ?_
  refine g_nm (fun MA eA fA => ?_)
  refine g_iconst (v := nI 0) d_RD_init_46 (by decide) ?_
  refine g_istore_n d_RD_init_47 (by decide) ?_
  refine g_wide (k' := 31) (n' := 400) (by omega) (by omega) ?_
  have fr : ∀ x, x ≠ B → x ≠ B + 30 → x ≠ B + 31 → MA x = M5 x := fun x x1 x2 x3 => by rw [fA x x1, f9 x (by omega), f8 x x1, f7 x (by omega), f6 x x1]
  refine g_for (P := fun i => ∀ (N1 : Nat) (M3 : gM), N1 = B + 32 + 52 * i → M3 B = some (.inr (0, [.ref (B + 1), .ref (B + 3), .ref (B + 30), .ref (B + 31), .null, .null])) → (∃ fa, M3 (B + 30) = some (g_qa E 4 2 fa) ∧ ∀ j, j < i → fa j = some (B + 32 + 52 * j)) → (∃ fa, M3 (B + 31) = some (g_qa E 5 2 fa) ∧ ∀ j, j < i → fa j = some (B + 58 + 52 * j)) → (∀ j, j < i → o_list E M3 (B + 32 + 52 * j) 0 (fun _ => (0, fun _ => 0, fun _ => 0))) → (∀ j, j < i → o_D E M3 (B + 58 + 52 * j) (B + 32 + 52 * j)) → o_text E M3 (B + 1) 0 (fun _ => 0) → o_R E M3 B → (∀ x, (x < B ∨ B + 151 < x) → M3 x = M x) → G _ _ _ _ _ _ _ _ _ _ _ _ 48 [some (.ref B), some (.int (nI i))] [] N1 M3 (31 + 52 * i) (400 + 3150 * i)) (e := 2) ?_ ?_ 0 (by decide) _ MA rfl ?_ ?_ ?_ ?_ ?_ ?_ ?_ ?_
  · intro N1 M3 hN1 g1 g2 g3 g4 g5 g6 g7 g8
    subst hN1
    obtain ⟨fa, g2a, g2b⟩ := g2
    have hA := g4 0 (by omega)
    have hB := g4 1 (by omega)
    have hAa := hA.1
    have hBa := hB.1
    refine g_iload_n d_RD_init_48 rfl ?_
    refine g_iconst (v := nI 2) d_RD_init_49 (by decide) ?_
    refine g_icmpN_ge (tgt := 91) d_RD_init_50 (by decide) (by omega) (by omega) (fun hb_50 => ?_) (fun hb_50 => ?_)
    · refine g_aload_n d_RD_init_91 rfl ?_
      refine g_new n_RD_41 (by omega) (by omega) d_RD_init_92 ?_
      refine g_nm (fun M4 e4 f4 => ?_)
      have b1 := (f4 B (by omega)).trans g1
      have b2 := (f4 (B + 30) (by omega)).trans g2a
      have bA := (f4 (B + 32 + 52 * 0) (by omega)).trans hAa
      have bB := (f4 (B + 32 + 52 * 1) (by omega)).trans hBa
      refine g_dup d_RD_init_95 rfl ?_
      refine g_aload_n d_RD_init_96 rfl ?_
      refine g_get f_RD_27 (by assumption) rfl d_RD_init_97 ?_
      refine g_iconst (v := nI 0) d_RD_init_100 (by decide) ?_
      refine g_aald 0 (by assumption) rfl rfl rfl (by omega) (by decide) (g2b 0 (by omega)) d_RD_init_101 ?_
      refine g_aload_n d_RD_init_102 rfl ?_
      refine g_get f_RD_27 (by assumption) rfl d_RD_init_103 ?_
      refine g_iconst (v := nI 1) d_RD_init_106 (by decide) ?_
      refine g_aald 1 (by assumption) rfl rfl rfl (by omega) (by decide) (g2b 1 (by omega)) d_RD_init_107 ?_
      refine g_callI s_RD_43 sv_Co_init (k_Co_init e4 rfl bA bB (by omega) (by omega)) (by omega) rfl (by omega) (by omega) rfl (Nat.le_of_ble_eq_true rfl) d_RD_init_108 ?_
      rintro v' N' M5 ⟨rfl, rfl, c1, c2, f5⟩
      have b5 := (f5 B (by omega)).trans b1
      have c1a := c1.1
      refine g_putF p_RD_46 rfl (by assumption) (Nat.le_of_ble_eq_true rfl) rfl rfl d_RD_init_111 ?_
      refine g_nm (fun M6 e6 f6 => ?_)
      refine g_aload_n d_RD_init_114 rfl ?_
      refine g_new n_RD_50 (by omega) (by omega) d_RD_init_115 ?_
      refine g_nm (fun M7 e7 f7 => ?_)
      have b7 := (f7 B (by omega)).trans e6
      refine g_dup d_RD_init_118 rfl ?_
      refine g_callI s_RD_52 sv_Ga_init (k_Ga_init e7 rfl) (by omega) rfl (by omega) (by omega) rfl (Nat.le_of_ble_eq_true rfl) d_RD_init_119 ?_
      rintro v' N' M8 ⟨rfl, rfl, d1, f8⟩
      have b8 := (f8 B (by omega) (by omega)).trans b7
      have d1a := d1.1
      refine g_putF p_RD_53 rfl (by assumption) (Nat.le_of_ble_eq_true rfl) rfl rfl d_RD_init_122 ?_
      refine g_nm (fun M9 e9 f9 => ?_)
      have all : ∀ x, x ≠ B → (x < B + 136 ∨ B + 151 < x) → M9 x = M3 x := fun x x1 x2 => by rw [f9 x x1, f8 x (by omega) (by omega), f7 x (by omega), f6 x x1, f5 x (by omega), f4 x (by omega)]
      have co : ∀ x, B + 136 ≤ x → x ≤ B + 149 → M9 x = M5 x := fun x x1 x2 => by rw [f9 x (by omega), f8 x (by omega) (by omega), f7 x (by omega), f6 x (by omega)]
      obtain ⟨cn, cs, ct, c3⟩ := c2
      refine g_return rfl (by omega) (by omega) d_RD_init_125 ⟨_, rfl, rfl, by omega, ⟨⟨e9, ⟨fa, (all _ (by omega) (by omega)).trans g2a, g2b⟩, ?_⟩, g6.kept (fun x _ _ => all x (by omega) (by omega)), g7.kept (fun x _ _ => all x (by omega) (by omega)), fun j hj => (g4 j hj).kept (fun x _ _ => all x (by omega) (by omega)), fun j hj => (g5 j hj).kept (fun x _ _ => all x (by omega) (by omega)), ⟨c1.kept (fun x _ => co x (by omega) (by omega)), cn, cs, ct, c3.kept (fun x _ _ => co x (by omega) (by omega))⟩, d1.kept (fun x _ _ => f9 x (by omega))⟩, fun x hx => (all x (by omega) (by omega)).trans (g8 x hx)⟩
      obtain ⟨fb, g3a, g3b⟩ := g3
      exact ⟨fb, (all _ (by omega) (by omega)).trans g3a, g3b⟩
    · omega
  · intro i hi ih N1 M3 hN1 g1 g2 g3 g4 g5 g6 g7 g8
    subst hN1
    obtain ⟨fa, g2a, g2b⟩ := g2
    obtain ⟨fb, g3a, g3b⟩ := g3
    refine g_iload_n d_RD_init_48 rfl ?_
    refine g_iconst (v := nI 2) d_RD_init_49 (by decide) ?_
    refine g_icmpN_ge (tgt := 91) d_RD_init_50 (by decide) (by omega) (by omega) (fun hb_50 => ?_) (fun hb_50 => ?_)
    · omega
    refine g_aload_n d_RD_init_53 rfl ?_
    refine g_get f_RD_27 (by assumption) rfl d_RD_init_54 ?_
    refine g_iload_n d_RD_init_57 rfl ?_
    refine g_new n_RD_25 (by omega) (by omega) d_RD_init_58 ?_
    refine g_nm (fun M4 e4 f4 => ?_)
    have b1 := (f4 B (by omega)).trans g1
    have b2 := (f4 (B + 30) (by omega)).trans g2a
    refine g_dup d_RD_init_61 rfl ?_
    refine g_callI s_RD_37 sv_RL_init (k_RL_init e4 rfl) (by omega) rfl (by omega) (by omega) rfl (Nat.le_of_ble_eq_true rfl) d_RD_init_62 ?_
    rintro v' N' M5 ⟨rfl, rfl, l5, f5⟩
    have l5a := l5.1
    have b25 := (f5 (B + 30) (by omega)).trans b2
    refine g_aast (ci := 5) (r := (R_RL, F_RL, 2)) i (by assumption) rfl rfl (by assumption) rfl (by omega) (by decide) d_RD_init_65 ?_
    refine g_nm (fun M6 e6 f6 => ?_)
    have b16 := (f6 B (by omega)).trans ((f5 B (by omega)).trans b1)
    refine g_aload_n d_RD_init_66 rfl ?_
    refine g_get f_RD_33 (by assumption) rfl d_RD_init_67 ?_
    refine g_iload_n d_RD_init_70 rfl ?_
    refine g_new n_RD_31 (by omega) (by omega) d_RD_init_71 ?_
    refine g_nm (fun M7 e7 f7 => ?_)
    have b17 := (f7 B (by omega)).trans b16
    have b27 := (f7 (B + 30) (by omega)).trans e6
    have l7 := l5.kept (M' := M7) (fun x _ _ => (f7 x (by omega)).trans (f6 x (by omega)))
    have l7a := l7.1
    refine g_dup d_RD_init_74 rfl ?_
    refine g_aload_n d_RD_init_75 rfl ?_
    refine g_get f_RD_27 (by assumption) rfl d_RD_init_76 ?_
    refine g_iload_n d_RD_init_79 rfl ?_
    refine g_aald i (by assumption) rfl rfl rfl hi (by decide) (va_up_self _ _ _) d_RD_init_80 ?_
    refine g_callI s_RD_38 sv_Di_init (k_Di_init e7 rfl l7a (by omega)) (by omega) rfl (by omega) (by omega) rfl (Nat.le_of_ble_eq_true rfl) d_RD_init_81 ?_
    rintro v' N' M8 ⟨rfl, rfl, d1, d2, d3, d4, f8⟩
    have b38 : M8 (B + 31) = some (g_qa E 5 2 fb) := by rw [f8 _ (by omega), f7 _ (by omega), f6 _ (by omega), f5 _ (by omega), f4 _ (by omega)]; exact g3a
    have d1a := d1.1
    refine g_aast (ci := 7) (r := (R_Di, F_Di, 5)) i (by assumption) rfl rfl (by assumption) rfl (by omega) (by decide) d_RD_init_84 ?_
    refine g_nm (fun M9 e9 f9 => ?_)
    refine g_iinc1 d_RD_init_85 rfl (by decide) ?_
    refine g_goto (tgt := 48) d_RD_init_88 (by decide) ?_
    refine g_wide (k' := 31 + 52 * (i + 1)) (n' := 400 + 3150 * (i + 1)) (by omega) (by omega) ?_
    have all : ∀ x, x ≠ B + 30 → x ≠ B + 31 → (x < B + 32 + 52 * i ∨ B + 32 + 52 * i + 51 < x) → M9 x = M3 x := fun x x1 x2 x3 => by rw [f9 x x2, f8 x (by omega), f7 x (by omega), f6 x x1, f5 x (by omega), f4 x (by omega)]
    have dk : ∀ x, B + 58 + 52 * i ≤ x → M9 x = M8 x := fun x hx => f9 x (by omega)
    refine ih _ M9 (by omega) ((all B (by omega) (by omega) (by omega)).trans g1) ⟨_, (f9 _ (by omega)).trans ((f8 _ (by omega)).trans b27), fun j hj => ?_⟩ ⟨_, e9, fun j hj => ?_⟩ (fun j hj => ?_) (fun j hj => ?_) (g6.kept (fun x _ _ => all x (by omega) (by omega) (by omega))) (g7.kept (fun x _ _ => all x (by omega) (by omega) (by omega))) (fun x hx => (all x (by omega) (by omega) (by omega)).trans (g8 x hx))
    · by_cases e : j = i
      · subst e
        rw [va_up_self]
      · rw [va_up_ne _ _ e]
        exact g2b j (by omega)
    · by_cases e : j = i
      · subst e
        rw [va_up_self]
        exact congrArg some (by omega)
      · rw [va_up_ne _ _ e]
        exact g3b j (by omega)
    · by_cases e : j = i
      · subst e
        exact l7.kept (fun x _ _ => (f9 x (by omega)).trans (f8 x (by omega)))
      · exact (g4 j (by omega)).kept (fun x _ _ => all x (by omega) (by omega) (by omega))
    · by_cases e : j = i
      · subst e
        have ea : B + 32 + 52 * j + 1 + 25 = B + 58 + 52 * j := by omega
        rw [ea] at d1 d2 d3 d4
        obtain ⟨cn, cs, ct, d2⟩ := d2
        exact ⟨⟨_, d1.kept (fun x _ => dk x (by omega))⟩, ⟨cn, cs, ct, d2.kept (fun x _ _ => dk x (by omega))⟩, ⟨_, d3.kept (fun x _ _ => dk x (by omega))⟩, _, d4.kept (fun x _ _ => dk x (by omega)), fun _ _ _ _ => by decide⟩
      · exact (g5 j (by omega)).kept (fun x _ _ => all x (by omega) (by omega) (by omega))
  · exact eA
  · exact ⟨_, (fA _ (by omega)).trans ((f9 _ (by omega)).trans ((f8 _ (by omega)).trans e7)), fun j hj => by omega⟩
  · exact ⟨_, (fA _ (by omega)).trans e9, fun j hj => by omega⟩
  · exact fun j hj => by omega
  · exact fun j hj => by omega
  · exact t5.kept (fun x _ _ => fr x (by omega) (by omega) (by omega))
  · exact ⟨⟨0, (fr _ (by omega) (by omega) (by omega)).trans r1⟩, ⟨0, 0, 0, (fr _ (by omega) (by omega) (by omega)).trans r2⟩, _, r3.kept (fun x _ _ => fr x (by omega) (by omega) (by omega))⟩
  · exact fun x hx => by rw [fr x (by omega) (by omega) (by omega), f5 x (by omega), f4 x (by omega), f3 x (by omega), f2 x (by omega) (by omega), f1 x (by omega)]
end INIT

