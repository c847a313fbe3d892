/-! the model's constructor -/
section MINIT
variable {l : Launch} {E : gE} {N : Nat} {M : gM} {W : Nat}
theorem k_Mo_init (h : M W = some (.inr (10, [.int 0, .null, .int 0, .null, .null, .null, .null, .null, .int 0, .null, .null, .null, .null, .null, .null, .int 0, .int 0, .int 0]))) (hN : W + 1 = N) : Ctr l E y_Mo_init 1 [.ref W] N M 12 20290 (g_ret (fun v N' M' => v = none ∧ N' = N + 12 ∧ OM E M' W (nI 0) 0 (fun _ => 0) (fun _ => 0) (fun _ _ => (0, fun _ => 0, fun _ => 0)) 0 (fun _ => 0) ∧ ∀ x, (x < W ∨ W + 12 < x) → M' x = M x)) := by
  subst hN
  refine ctr_of [some (.ref W)] (by decide) w_904 rfl rfl (Nat.le_of_ble_eq_true rfl) (fun Γ => ?_)
  have w0 := h
  have fr0 : ∀ x, (x < W ∨ W + 12 < x) → M x = M x := fun _ _ => rfl
  refine g_aload_n d_Mo_init_0 rfl ?_
  refine g_objInit w_905 m_objI m_objC (by omega) (Nat.le_of_ble_eq_true rfl) d_Mo_init_1 ?_
  refine g_aload_n d_Mo_init_4 rfl ?_
  refine g_sipush (v := nI 240) d_Mo_init_5 (by decide) ?_
  refine g_newi _ w_90 rfl (by decide) (by omega) (by omega) d_Mo_init_8 ?_
  refine g_nm (fun A1 a1 g1 => ?_)
  have b1 := (g1 W (by omega)).trans w0
  refine g_putF p_Mo_7 rfl (by assumption) (Nat.le_of_ble_eq_true rfl) rfl rfl d_Mo_init_10 ?_
  refine g_nm (fun M1 w1 f1 => ?_)
  have fr1 : ∀ x, (x < W ∨ W + 12 < x) → M1 x = M x := fun x hx => (f1 x (by omega)).trans ((g1 x (by omega)).trans (fr0 x hx))
  have r1_1 : M1 (W + 1) = some (g_ia E 240 (fun _ => 0)) := (f1 _ (by omega)).trans a1
  refine g_aload_n d_Mo_init_13 rfl ?_
  refine g_bipush (v := nI 16) d_Mo_init_14 (by decide) ?_
  refine g_newi _ w_90 rfl (by decide) (by omega) (by omega) d_Mo_init_16 ?_
  refine g_nm (fun A2 a2 g2 => ?_)
  have b2 := (g2 W (by omega)).trans w1
  refine g_putF p_Mo_13 rfl (by assumption) (Nat.le_of_ble_eq_true rfl) rfl rfl d_Mo_init_18 ?_
  refine g_nm (fun M2 w2 f2 => ?_)
  have fr2 : ∀ x, (x < W ∨ W + 12 < x) → M2 x = M x := fun x hx => (f2 x (by omega)).trans ((g2 x (by omega)).trans (fr1 x hx))
  have r2_2 : M2 (W + 2) = some (g_ia E 16 (fun _ => 0)) := (f2 _ (by omega)).trans a2
  have r2_1 := (f2 (W + 1) (by omega)).trans ((g2 (W + 1) (by omega)).trans r1_1)
  refine g_aload_n d_Mo_init_21 rfl ?_
  refine g_bipush (v := nI 64) d_Mo_init_22 (by decide) ?_
  refine g_newi _ w_90 rfl (by decide) (by omega) (by omega) d_Mo_init_24 ?_
  refine g_nm (fun A3 a3 g3 => ?_)
  have b3 := (g3 W (by omega)).trans w2
  refine g_putF p_Mo_16 rfl (by assumption) (Nat.le_of_ble_eq_true rfl) rfl rfl d_Mo_init_26 ?_
  refine g_nm (fun M3 w3 f3 => ?_)
  have fr3 : ∀ x, (x < W ∨ W + 12 < x) → M3 x = M x := fun x hx => (f3 x (by omega)).trans ((g3 x (by omega)).trans (fr2 x hx))
  have r3_3 : M3 (W + 3) = some (g_ia E 64 (fun _ => 0)) := (f3 _ (by omega)).trans a3
  have r3_1 := (f3 (W + 1) (by omega)).trans ((g3 (W + 1) (by omega)).trans r2_1)
  have r3_2 := (f3 (W + 2) (by omega)).trans ((g3 (W + 2) (by omega)).trans r2_2)
  refine g_aload_n d_Mo_init_29 rfl ?_
  refine g_bipush (v := nI 64) d_Mo_init_30 (by decide) ?_
  refine g_newi _ w_90 rfl (by decide) (by omega) (by omega) d_Mo_init_32 ?_
  refine g_nm (fun A4 a4 g4 => ?_)
  have b4 := (g4 W (by omega)).trans w3
  refine g_putF p_Mo_19 rfl (by assumption) (Nat.le_of_ble_eq_true rfl) rfl rfl d_Mo_init_34 ?_
  refine g_nm (fun M4 w4 f4 => ?_)
  have fr4 : ∀ x, (x < W ∨ W + 12 < x) → M4 x = M x := fun x hx => (f4 x (by omega)).trans ((g4 x (by omega)).trans (fr3 x hx))
  have r4_4 : M4 (W + 4) = some (g_ia E 64 (fun _ => 0)) := (f4 _ (by omega)).trans a4
  have r4_1 := (f4 (W + 1) (by omega)).trans ((g4 (W + 1) (by omega)).trans r3_1)
  have r4_2 := (f4 (W + 2) (by omega)).trans ((g4 (W + 2) (by omega)).trans r3_2)
  have r4_3 := (f4 (W + 3) (by omega)).trans ((g4 (W + 3) (by omega)).trans r3_3)
  refine g_aload_n d_Mo_init_37 rfl ?_
  refine g_iconst (v := nI 2) d_Mo_init_38 (by decide) ?_
  refine g_newi _ w_90 rfl (by decide) (by omega) (by omega) d_Mo_init_39 ?_
  refine g_nm (fun A5 a5 g5 => ?_)
  have b5 := (g5 W (by omega)).trans w4
  refine g_putF p_Mo_22 rfl (by assumption) (Nat.le_of_ble_eq_true rfl) rfl rfl d_Mo_init_41 ?_
  refine g_nm (fun M5 w5 f5 => ?_)
  have fr5 : ∀ x, (x < W ∨ W + 12 < x) → M5 x = M x := fun x hx => (f5 x (by omega)).trans ((g5 x (by omega)).trans (fr4 x hx))
  have r5_5 : M5 (W + 5) = some (g_ia E 2 (fun _ => 0)) := (f5 _ (by omega)).trans a5
  have r5_1 := (f5 (W + 1) (by omega)).trans ((g5 (W + 1) (by omega)).trans r4_1)
  have r5_2 := (f5 (W + 2) (by omega)).trans ((g5 (W + 2) (by omega)).trans r4_2)
  have r5_3 := (f5 (W + 3) (by omega)).trans ((g5 (W + 3) (by omega)).trans r4_3)
  have r5_4 := (f5 (W + 4) (by omega)).trans ((g5 (W + 4) (by omega)).trans r4_4)
  refine g_aload_n d_Mo_init_44 rfl ?_
  refine g_bipush (v := nI 16) d_Mo_init_45 (by decide) ?_
  refine g_newi _ w_90 rfl (by decide) (by omega) (by omega) d_Mo_init_47 ?_
  refine g_nm (fun A6 a6 g6 => ?_)
  have b6 := (g6 W (by omega)).trans w5
  refine g_putF p_Mo_25 rfl (by assumption) (Nat.le_of_ble_eq_true rfl) rfl rfl d_Mo_init_49 ?_
  refine g_nm (fun M6 w6 f6 => ?_)
  have fr6 : ∀ x, (x < W ∨ W + 12 < x) → M6 x = M x := fun x hx => (f6 x (by omega)).trans ((g6 x (by omega)).trans (fr5 x hx))
  have r6_6 : M6 (W + 6) = some (g_ia E 16 (fun _ => 0)) := (f6 _ (by omega)).trans a6
  have r6_1 := (f6 (W + 1) (by omega)).trans ((g6 (W + 1) (by omega)).trans r5_1)
  have r6_2 := (f6 (W + 2) (by omega)).trans ((g6 (W + 2) (by omega)).trans r5_2)
  have r6_3 := (f6 (W + 3) (by omega)).trans ((g6 (W + 3) (by omega)).trans r5_3)
  have r6_4 := (f6 (W + 4) (by omega)).trans ((g6 (W + 4) (by omega)).trans r5_4)
  have r6_5 := (f6 (W + 5) (by omega)).trans ((g6 (W + 5) (by omega)).trans r5_5)
  refine g_aload_n d_Mo_init_52 rfl ?_
  refine g_sipush (v := nI 160) d_Mo_init_53 (by decide) ?_
  refine g_newi _ w_90 rfl (by decide) (by omega) (by omega) d_Mo_init_56 ?_
  refine g_nm (fun A7 a7 g7 => ?_)
  have b7 := (g7 W (by omega)).trans w6
  refine g_putF p_Mo_28 rfl (by assumption) (Nat.le_of_ble_eq_true rfl) rfl rfl d_Mo_init_58 ?_
  refine g_nm (fun M7 w7 f7 => ?_)
  have fr7 : ∀ x, (x < W ∨ W + 12 < x) → M7 x = M x := fun x hx => (f7 x (by omega)).trans ((g7 x (by omega)).trans (fr6 x hx))
  have r7_7 : M7 (W + 7) = some (g_ia E 160 (fun _ => 0)) := (f7 _ (by omega)).trans a7
  have r7_1 := (f7 (W + 1) (by omega)).trans ((g7 (W + 1) (by omega)).trans r6_1)
  have r7_2 := (f7 (W + 2) (by omega)).trans ((g7 (W + 2) (by omega)).trans r6_2)
  have r7_3 := (f7 (W + 3) (by omega)).trans ((g7 (W + 3) (by omega)).trans r6_3)
  have r7_4 := (f7 (W + 4) (by omega)).trans ((g7 (W + 4) (by omega)).trans r6_4)
  have r7_5 := (f7 (W + 5) (by omega)).trans ((g7 (W + 5) (by omega)).trans r6_5)
  have r7_6 := (f7 (W + 6) (by omega)).trans ((g7 (W + 6) (by omega)).trans r6_6)
  refine g_aload_n d_Mo_init_61 rfl ?_
  refine g_iconst (v := nI 4) d_Mo_init_62 (by decide) ?_
  refine g_newi _ w_90 rfl (by decide) (by omega) (by omega) d_Mo_init_63 ?_
  refine g_nm (fun A8 a8 g8 => ?_)
  have b8 := (g8 W (by omega)).trans w7
  refine g_putF p_Mo_31 rfl (by assumption) (Nat.le_of_ble_eq_true rfl) rfl rfl d_Mo_init_65 ?_
  refine g_nm (fun M8 w8 f8 => ?_)
  have fr8 : ∀ x, (x < W ∨ W + 12 < x) → M8 x = M x := fun x hx => (f8 x (by omega)).trans ((g8 x (by omega)).trans (fr7 x hx))
  have r8_8 : M8 (W + 8) = some (g_ia E 4 (fun _ => 0)) := (f8 _ (by omega)).trans a8
  have r8_1 := (f8 (W + 1) (by omega)).trans ((g8 (W + 1) (by omega)).trans r7_1)
  have r8_2 := (f8 (W + 2) (by omega)).trans ((g8 (W + 2) (by omega)).trans r7_2)
  have r8_3 := (f8 (W + 3) (by omega)).trans ((g8 (W + 3) (by omega)).trans r7_3)
  have r8_4 := (f8 (W + 4) (by omega)).trans ((g8 (W + 4) (by omega)).trans r7_4)
  have r8_5 := (f8 (W + 5) (by omega)).trans ((g8 (W + 5) (by omega)).trans r7_5)
  have r8_6 := (f8 (W + 6) (by omega)).trans ((g8 (W + 6) (by omega)).trans r7_6)
  have r8_7 := (f8 (W + 7) (by omega)).trans ((g8 (W + 7) (by omega)).trans r7_7)
  refine g_aload_n d_Mo_init_68 rfl ?_
  refine g_sipush (v := nI 19652) d_Mo_init_69 (by decide) ?_
  refine g_newi _ w_90 rfl (by decide) (by omega) (by omega) d_Mo_init_72 ?_
  refine g_nm (fun A9 a9 g9 => ?_)
  have b9 := (g9 W (by omega)).trans w8
  refine g_putF p_Mo_34 rfl (by assumption) (Nat.le_of_ble_eq_true rfl) rfl rfl d_Mo_init_74 ?_
  refine g_nm (fun M9 w9 f9 => ?_)
  have fr9 : ∀ x, (x < W ∨ W + 12 < x) → M9 x = M x := fun x hx => (f9 x (by omega)).trans ((g9 x (by omega)).trans (fr8 x hx))
  have r9_9 : M9 (W + 9) = some (g_ia E 19652 (fun _ => 0)) := (f9 _ (by omega)).trans a9
  have r9_1 := (f9 (W + 1) (by omega)).trans ((g9 (W + 1) (by omega)).trans r8_1)
  have r9_2 := (f9 (W + 2) (by omega)).trans ((g9 (W + 2) (by omega)).trans r8_2)
  have r9_3 := (f9 (W + 3) (by omega)).trans ((g9 (W + 3) (by omega)).trans r8_3)
  have r9_4 := (f9 (W + 4) (by omega)).trans ((g9 (W + 4) (by omega)).trans r8_4)
  have r9_5 := (f9 (W + 5) (by omega)).trans ((g9 (W + 5) (by omega)).trans r8_5)
  have r9_6 := (f9 (W + 6) (by omega)).trans ((g9 (W + 6) (by omega)).trans r8_6)
  have r9_7 := (f9 (W + 7) (by omega)).trans ((g9 (W + 7) (by omega)).trans r8_7)
  have r9_8 := (f9 (W + 8) (by omega)).trans ((g9 (W + 8) (by omega)).trans r8_8)
  refine g_aload_n d_Mo_init_77 rfl ?_
  refine g_bipush (v := nI 8) d_Mo_init_78 (by decide) ?_
  refine g_newi _ w_90 rfl (by decide) (by omega) (by omega) d_Mo_init_80 ?_
  refine g_nm (fun A10 a10 g10 => ?_)
  have b10 := (g10 W (by omega)).trans w9
  refine g_putF p_Mo_37 rfl (by assumption) (Nat.le_of_ble_eq_true rfl) rfl rfl d_Mo_init_82 ?_
  refine g_nm (fun M10 w10 f10 => ?_)
  have fr10 : ∀ x, (x < W ∨ W + 12 < x) → M10 x = M x := fun x hx => (f10 x (by omega)).trans ((g10 x (by omega)).trans (fr9 x hx))
  have r10_10 : M10 (W + 10) = some (g_ia E 8 (fun _ => 0)) := (f10 _ (by omega)).trans a10
  have r10_1 := (f10 (W + 1) (by omega)).trans ((g10 (W + 1) (by omega)).trans r9_1)
  have r10_2 := (f10 (W + 2) (by omega)).trans ((g10 (W + 2) (by omega)).trans r9_2)
  have r10_3 := (f10 (W + 3) (by omega)).trans ((g10 (W + 3) (by omega)).trans r9_3)
  have r10_4 := (f10 (W + 4) (by omega)).trans ((g10 (W + 4) (by omega)).trans r9_4)
  have r10_5 := (f10 (W + 5) (by omega)).trans ((g10 (W + 5) (by omega)).trans r9_5)
  have r10_6 := (f10 (W + 6) (by omega)).trans ((g10 (W + 6) (by omega)).trans r9_6)
  have r10_7 := (f10 (W + 7) (by omega)).trans ((g10 (W + 7) (by omega)).trans r9_7)
  have r10_8 := (f10 (W + 8) (by omega)).trans ((g10 (W + 8) (by omega)).trans r9_8)
  have r10_9 := (f10 (W + 9) (by omega)).trans ((g10 (W + 9) (by omega)).trans r9_9)
  refine g_aload_n d_Mo_init_85 rfl ?_
  refine g_bipush (v := nI 32) d_Mo_init_86 (by decide) ?_
  refine g_newi _ w_90 rfl (by decide) (by omega) (by omega) d_Mo_init_88 ?_
  refine g_nm (fun A11 a11 g11 => ?_)
  have b11 := (g11 W (by omega)).trans w10
  refine g_putF p_Mo_40 rfl (by assumption) (Nat.le_of_ble_eq_true rfl) rfl rfl d_Mo_init_90 ?_
  refine g_nm (fun M11 w11 f11 => ?_)
  have fr11 : ∀ x, (x < W ∨ W + 12 < x) → M11 x = M x := fun x hx => (f11 x (by omega)).trans ((g11 x (by omega)).trans (fr10 x hx))
  have r11_11 : M11 (W + 11) = some (g_ia E 32 (fun _ => 0)) := (f11 _ (by omega)).trans a11
  have r11_1 := (f11 (W + 1) (by omega)).trans ((g11 (W + 1) (by omega)).trans r10_1)
  have r11_2 := (f11 (W + 2) (by omega)).trans ((g11 (W + 2) (by omega)).trans r10_2)
  have r11_3 := (f11 (W + 3) (by omega)).trans ((g11 (W + 3) (by omega)).trans r10_3)
  have r11_4 := (f11 (W + 4) (by omega)).trans ((g11 (W + 4) (by omega)).trans r10_4)
  have r11_5 := (f11 (W + 5) (by omega)).trans ((g11 (W + 5) (by omega)).trans r10_5)
  have r11_6 := (f11 (W + 6) (by omega)).trans ((g11 (W + 6) (by omega)).trans r10_6)
  have r11_7 := (f11 (W + 7) (by omega)).trans ((g11 (W + 7) (by omega)).trans r10_7)
  have r11_8 := (f11 (W + 8) (by omega)).trans ((g11 (W + 8) (by omega)).trans r10_8)
  have r11_9 := (f11 (W + 9) (by omega)).trans ((g11 (W + 9) (by omega)).trans r10_9)
  have r11_10 := (f11 (W + 10) (by omega)).trans ((g11 (W + 10) (by omega)).trans r10_10)
  refine g_aload_n d_Mo_init_93 rfl ?_
  refine g_bipush (v := nI 32) d_Mo_init_94 (by decide) ?_
  refine g_newi _ w_90 rfl (by decide) (by omega) (by omega) d_Mo_init_96 ?_
  refine g_nm (fun A12 a12 g12 => ?_)
  have b12 := (g12 W (by omega)).trans w11
  refine g_putF p_Mo_43 rfl (by assumption) (Nat.le_of_ble_eq_true rfl) rfl rfl d_Mo_init_98 ?_
  refine g_nm (fun M12 w12 f12 => ?_)
  have fr12 : ∀ x, (x < W ∨ W + 12 < x) → M12 x = M x := fun x hx => (f12 x (by omega)).trans ((g12 x (by omega)).trans (fr11 x hx))
  have r12_12 : M12 (W + 12) = some (g_ia E 32 (fun _ => 0)) := (f12 _ (by omega)).trans a12
  have r12_1 := (f12 (W + 1) (by omega)).trans ((g12 (W + 1) (by omega)).trans r11_1)
  have r12_2 := (f12 (W + 2) (by omega)).trans ((g12 (W + 2) (by omega)).trans r11_2)
  have r12_3 := (f12 (W + 3) (by omega)).trans ((g12 (W + 3) (by omega)).trans r11_3)
  have r12_4 := (f12 (W + 4) (by omega)).trans ((g12 (W + 4) (by omega)).trans r11_4)
  have r12_5 := (f12 (W + 5) (by omega)).trans ((g12 (W + 5) (by omega)).trans r11_5)
  have r12_6 := (f12 (W + 6) (by omega)).trans ((g12 (W + 6) (by omega)).trans r11_6)
  have r12_7 := (f12 (W + 7) (by omega)).trans ((g12 (W + 7) (by omega)).trans r11_7)
  have r12_8 := (f12 (W + 8) (by omega)).trans ((g12 (W + 8) (by omega)).trans r11_8)
  have r12_9 := (f12 (W + 9) (by omega)).trans ((g12 (W + 9) (by omega)).trans r11_9)
  have r12_10 := (f12 (W + 10) (by omega)).trans ((g12 (W + 10) (by omega)).trans r11_10)
  have r12_11 := (f12 (W + 11) (by omega)).trans ((g12 (W + 11) (by omega)).trans r11_11)
  have z0 : (0 : Int32) = nI 0 := rfl
  exact g_return rfl (by omega) (by omega) d_Mo_init_101 ⟨_, rfl, rfl, rfl, ⟨⟨0, 0, 0, w12⟩, ⟨by omega, fun j hj => by omega, _, r12_1, fun j hj => by omega⟩, ⟨fun j _ => ⟨Nat.zero_le _, fun i hi => absurd hi (Nat.not_lt_zero _)⟩, ⟨_, r12_2, fun j i _ hi => absurd hi (Nat.not_lt_zero _)⟩, ⟨_, r12_3, fun j i f _ hi _ => absurd hi (Nat.not_lt_zero _)⟩, ⟨_, r12_4, fun j i f _ hi _ => absurd hi (Nat.not_lt_zero _)⟩, _, r12_5, fun j _ => z0⟩, ⟨by omega, fun k hk => by omega, _, r12_6, fun k f hk _ => by omega⟩, ⟨fun _ => 0, fun _ _ => 0, ⟨_, r12_8, fun f _ => ⟨z0, Nat.zero_le _⟩⟩, _, r12_7, fun f k _ hk => absurd hk (Nat.not_lt_zero _)⟩, ⟨_, r12_9⟩, ⟨_, r12_10⟩, ⟨_, r12_11⟩, _, r12_12⟩, fr12⟩
end MINIT

