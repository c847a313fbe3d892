theorem sTx_s (n : Nat) (ts : Nat → Nat) (k c a : Nat) (rs : Nat → Rl) : sTx n ts (k + 1) c a rs = if n ≤ a then (true, c, rs) else if (sRu n ts a (rs (min c 7))).1 = true then sTx n ts k (c + 1) (sRu n ts a (rs (min c 7))).2.1 (va_up rs (min c 7) (sRu n ts a (rs (min c 7))).2.2) else (false, (sRu n ts a (rs (min c 7))).2.1, va_up rs (min c 7) (sRu n ts a (rs (min c 7))).2.2) := rfl
/-! the model reads a text -/
section MREAD
variable {l : Launch} {E : gE} {N : Nat} {M : gM} {W tn : Nat} {th : Int32} {ts : Nat → Nat} {mm : Nat → Nat} {rr : Nat → Nat → Rl} {gn : Nat} {gs : Nat → Nat}
theorem g_cutM {y : MethodName} {cc : ByteArray} {nL : Nat} {ret : Option FieldType} {tb : List ExceptionTableEntry} {d : Nat} {Q : Outcome → Nat → gM → Prop} {mc ms : Nat} {Γ : gT} {pc : Nat} {L : List (Option Value)} {st : List Value} {k n : Nat} (pc2 : Nat) {D : Type} (L2 : D → List (Option Value)) (M2 : D → gM) (C : D → Prop) (kk : ∀ z, C z → G l E y cc nL ret tb d Q mc ms Γ pc2 (L2 z) [] N (M2 z) k n) (w : (∀ z, C z → G l E y cc nL ret tb d Q mc ms Γ pc2 (L2 z) [] N (M2 z) k n) → G l E y cc nL ret tb d Q mc ms Γ pc L st N M k n) : G l E y cc nL ret tb d Q mc ms Γ pc L st N M k n := w kk
theorem OM.pieces {M' : gM} {th' rc pl fa : Int32} {tn' : Nat} {ts' mm' : Nat → Nat} {rr' : Nat → Nat → Rl} {fv fl fu : Nat → Int32} (h : OM E M W th tn ts mm rr gn gs) (e : M' W = some (.inr (10, mo W th' (nI tn') (nI gn) rc pl fa))) (hT : o_mt E M' W tn' ts') (hL : o_ml E M' W mm' rr') (hk : ∀ x, W + 6 ≤ x → x ≤ W + 9 → M' x = M x) (h10 : M' (W + 10) = some (g_ia E 8 fv)) (h11 : M' (W + 11) = some (g_ia E 32 fl)) (h12 : M' (W + 12) = some (g_ia E 32 fu)) : OM E M' W th' tn' ts' mm' rr' gn gs := by
  obtain ⟨-, -, -, hK, ⟨cn, cs, hC⟩, ⟨c, h3⟩, -⟩ := h
  exact ⟨⟨rc, pl, fa, e⟩, hT, hL, hK.kept (hk _ (by omega) (by omega)), ⟨cn, cs, hC.kept (fun x _ => hk x (by omega) (by omega))⟩, ⟨c, (hk _ (by omega) (by omega)).trans h3⟩, ⟨fv, h10⟩, ⟨fl, h11⟩, fu, h12⟩
theorem k_Mo_read (h : OM E M W th tn ts mm rr gn gs) (j : Nat) (hj : j < 2) (z0 : Nat → Rl) : Ctr l E y_Mo_read 5 [.ref W, .int (nI j)] N M 0 0 (g_ret (fun w N' M' => N' = N ∧ (∀ x, (x < W ∨ W + 12 < x) → M' x = M x) ∧
    (((sT tn ts z0).1 = false ∧ w = some (.int (-1 - nI (sT tn ts z0).2.1)) ∧ OM E M' W (nI 0) 0 ts mm rr gn gs) ∨
    ((sT tn ts z0).1 = true ∧ 8 - mm j < (sT tn ts z0).2.1 ∧ w = some (.int (-1000)) ∧ OM E M' W (nI 0) 0 ts mm rr gn gs) ∨
    ((sT tn ts z0).1 = true ∧ (sT tn ts z0).2.1 ≤ 8 - mm j ∧ w = some (.int (nI (sT tn ts z0).2.1)) ∧ ∃ r', OM E M' W (nI 0) 0 ts (va_up mm j (mm j + (sT tn ts z0).2.1)) (va_up rr j r') gn gs ∧ (∀ k, k < mm j → r' k = rr j k) ∧ ∀ k, k < (sT tn ts z0).2.1 → r' (mm j + k) = (sT tn ts z0).2.2 k)))) := by
  obtain ⟨⟨rc, pl, fa, hO⟩, hT, hL, hK, hS⟩ := h
  have h : OM E M W th tn ts mm rr gn gs := ⟨⟨rc, pl, fa, hO⟩, hT, hL, hK, hS⟩
  have hin := inI_yes (j := j) (k := 1) (by omega) (by omega)
  have hm := (hL.1 j hj).1
  have hn := hT.1
  obtain ⟨-, -, ⟨fv0, v0⟩, ⟨fl0, l0⟩, fu0, u0⟩ := id hS
  have hok : (sT tn ts z0).1 = true → (sT tn ts z0).2.1 ≤ 8 → ∀ k, k < (sT tn ts z0).2.1 → r_ok ((sT tn ts z0).2.2 k) := fun a b => sTx_ok 240 0 _ z0 (fun k hk => by omega) a b
  obtain ⟨S, hSe⟩ : ∃ S, S = sT tn ts z0 := ⟨_, rfl⟩
  rw [← hSe] at hok ⊢
  have hT0 : ∀ M' : gM, M' (W + 1) = M (W + 1) → o_mt E M' W 0 ts := fun M' e => by
    obtain ⟨-, -, ft, t3, -⟩ := hT
    exact ⟨by omega, fun k hk => by omega, ft, e.trans t3, fun k hk => by omega⟩
  refine ctr_of [some (.ref W), some (.int (nI j)), none, none, none] (by decide) w_976 rfl rfl (Nat.le_of_ble_eq_true rfl) (fun Γ => ?_)
  refine g_aload_n d_Mo_read_0 rfl ?_
  refine g_iload_n d_Mo_read_1 rfl ?_
  refine g_iconst (v := nI 0) d_Mo_read_2 (by decide) ?_
  refine g_iconst (v := nI 1) d_Mo_read_3 (by decide) ?_
  refine g_callS s_Mo_112 sv_Mo_in (g_of_val (k_Mo_in _ _ _)) (by omega) rfl (by omega) (by omega) rfl (Nat.le_of_ble_eq_true rfl) d_Mo_read_4 ?_
  rintro _ _ _ ⟨rfl, rfl, rfl⟩
  first | refine g_ifB_ne (tgt := 14) d_Mo_read_7 (by decide) (fun hb_7 => ?_) (fun hb_7 => ?_) | refine g_ifN_ne (tgt := 14) d_Mo_read_7 (by decide) (by omega) (fun hb_7 => ?_) (fun hb_7 => ?_)
  rotate_left
  · rw [hin] at hb_7; cases hb_7
  refine g_iconst (v := nI 0) d_Mo_read_14 (by decide) ?_
  refine g_iconst (v := nI 0) d_Mo_read_15 (by decide) ?_
  refine g_callV s_Mo_57 sv_Mo_refuse (by assumption) rfl (k_Mo_refuse hO false false) (by omega) rfl (by omega) (by omega) rfl (Nat.le_of_ble_eq_true rfl) d_Mo_read_16 ?_
  rintro v' N' M1 ⟨rfl, rfl, e1, f1⟩
  replace e1 : M1 W = some (.inr (10, mo W (nI 0) (nI tn) (nI gn) rc pl fa)) := e1
  first | refine g_ifB_eq (tgt := 24) d_Mo_read_19 (by decide) (fun hb_19 => ?_) (fun hb_19 => ?_) | refine g_ifN_eq (tgt := 24) d_Mo_read_19 (by decide) (by omega) (fun hb_19 => ?_) (fun hb_19 => ?_)
  rotate_left
  · cases hb_19
  refine g_aload_n d_Mo_read_24 rfl ?_
  refine g_iconst (v := nI 0) d_Mo_read_25 (by decide) ?_
  refine g_put p_Mo_61 (by assumption) (Nat.le_of_ble_eq_true rfl) rfl rfl d_Mo_read_26 ?_
  refine g_nm (fun M2 e2 f2 => ?_)
  refine g_aload_n d_Mo_read_29 rfl ?_
  refine g_iconst (v := -1) d_Mo_read_30 (by decide) ?_
  refine g_put p_Mo_67 (by assumption) (Nat.le_of_ble_eq_true rfl) rfl rfl d_Mo_read_31 ?_
  refine g_nm (fun M3 e3 f3 => ?_)
  refine g_aload_n d_Mo_read_34 rfl ?_
  refine g_iconst (v := nI 0) d_Mo_read_35 (by decide) ?_
  refine g_put p_Mo_102 (by assumption) (Nat.le_of_ble_eq_true rfl) rfl rfl d_Mo_read_36 ?_
  refine g_nm (fun M4 e4 f4 => ?_)
  have fr4 : ∀ x, x ≠ W → M4 x = M x := fun x hx => (f4 x hx).trans ((f3 x hx).trans ((f2 x hx).trans (f1 x hx)))
  have hT4 := hT.kept (M' := M4) (fr4 _ (by omega))
  refine g_aload_n d_Mo_read_39 rfl ?_
  refine g_callV s_Mo_78 sv_Mo_blanks (by assumption) rfl (k_Mo_blanks 0 (by omega) e4 hT4) (by omega) rfl (by omega) (by omega) rfl (Nat.le_of_ble_eq_true rfl) d_Mo_read_40 ?_
  rintro v' N' M5 ⟨rfl, rfl, e5, f5⟩
  have fr5 : ∀ x, x ≠ W → M5 x = M x := fun x hx => (f5 x hx).trans (fr4 x hx)
  refine g_cutM 72 (D := gM × Nat × Nat × (Nat → Rl) × (Nat → Int32) × (Nat → Int32) × (Nat → Int32)) (fun _ => [some (.ref W), some (.int (nI j)), none, none, none]) (fun z => z.1) (fun z => S = (true, z.2.2.1, z.2.2.2.1) ∧ z.2.1 ≤ 300 ∧ z.2.2.1 ≤ 240 ∧ z.1 W = some (.inr (10, mo W (nI 0) (nI tn) (nI gn) (nI z.2.2.1) (nI z.2.1) (-1))) ∧ z.1 (W + 10) = some (g_ia E 8 z.2.2.2.2.1) ∧ z.1 (W + 11) = some (g_ia E 32 z.2.2.2.2.2.1) ∧ z.1 (W + 12) = some (g_ia E 32 z.2.2.2.2.2.2) ∧ (∀ t, t < z.2.2.1 → t < 8 → z.2.2.2.2.1 t = nI (z.2.2.2.1 t).1 ∧ ∀ g, g < 4 → z.2.2.2.2.2.1 (4 * t + g) = nI ((z.2.2.2.1 t).2.1 g) ∧ z.2.2.2.2.2.2 (4 * t + g) = nI ((z.2.2.2.1 t).2.2 g)) ∧ ∀ x, x ≠ W → x ≠ W + 10 → x ≠ W + 11 → x ≠ W + 12 → z.1 x = M x) ?_ (fun kA => ?_)
  · rintro ⟨M6, a, c, rs, fv, fl, fu⟩ ⟨hS6, ha, hc, e6, v6, l6, u6, r6, fr6⟩
    replace hS6 : S = (true, c, rs) := hS6
    replace ha : a ≤ 300 := ha
    replace hc : c ≤ 240 := hc
    replace e6 : M6 W = some (.inr (10, mo W (nI 0) (nI tn) (nI gn) (nI c) (nI a) (-1))) := e6
    replace v6 : M6 (W + 10) = some (g_ia E 8 fv) := v6
    replace l6 : M6 (W + 11) = some (g_ia E 32 fl) := l6
    replace u6 : M6 (W + 12) = some (g_ia E 32 fu) := u6
    replace fr6 : ∀ x, x ≠ W → x ≠ W + 10 → x ≠ W + 11 → x ≠ W + 12 → M6 x = M x := fr6
    replace r6 : ∀ t, t < c → t < 8 → fv t = nI (rs t).1 ∧ ∀ g, g < 4 → fl (4 * t + g) = nI ((rs t).2.1 g) ∧ fu (4 * t + g) = nI ((rs t).2.2 g) := r6
    show G _ _ _ _ _ _ _ _ _ _ _ _ 72 [some (.ref W), some (.int (nI j)), none, none, none] [] _ M6 0 0
    refine g_aload_n d_Mo_read_72 rfl ?_
    refine g_iconst (v := nI 0) d_Mo_read_73 (by decide) ?_
    refine g_put p_Mo_54 (by assumption) (Nat.le_of_ble_eq_true rfl) rfl rfl d_Mo_read_74 ?_
    refine g_nm (fun M7 e7 f7 => ?_)
    have v7 := (f7 (W + 10) (by omega)).trans v6
    have l7 := (f7 (W + 11) (by omega)).trans l6
    have u7 := (f7 (W + 12) (by omega)).trans u6
    have fr7 : ∀ x, x ≠ W → x ≠ W + 10 → x ≠ W + 11 → x ≠ W + 12 → M7 x = M x := fun x x1 x2 x3 x4 => (f7 x x1).trans (fr6 x x1 x2 x3 x4)
    have hL7 := hL.kept (M' := M7) (fun x _ _ => fr7 x (by omega) (by omega) (by omega) (by omega))
    obtain ⟨-, -, -, -, fc, d1, d2⟩ := id hL7
    refine g_aload_n d_Mo_read_77 rfl ?_
    refine g_get f_Mo_67 (by assumption) rfl d_Mo_read_78 ?_
    refine g_if_lt (tgt := 91) d_Mo_read_81 (by decide) (fun _ => ?_) (fun hb => absurd (by decide) hb)
    refine g_aload_n d_Mo_read_91 rfl ?_
    refine g_get f_Mo_22 (by assumption) rfl d_Mo_read_92 ?_
    refine g_iload_n d_Mo_read_95 rfl ?_
    refine g_iald _ (by assumption) rfl (by omega) (by decide) d_Mo_read_96 ?_
    refine g_eqi (d2 j hj) ?_
    refine g_aload_n d_Mo_read_97 rfl ?_
    refine g_get f_Mo_102 (by assumption) rfl d_Mo_read_98 ?_
    refine g_iadd d_Mo_read_101 ?_
    refine g_eqi (nI_add _ _) ?_
    refine g_bipush (v := nI 8) d_Mo_read_102 (by decide) ?_
    refine g_icmpN_le (tgt := 111) d_Mo_read_104 (by decide) (by omega) (by omega) (fun hb_104 => ?_) (fun hb_104 => ?_)
    rotate_left
    · refine g_sipush (v := -1000) d_Mo_read_107 (by decide) ?_
      exact g_ireturn rfl rfl (by omega) (by omega) d_Mo_read_110 ⟨_, rfl, rfl, fun x hx => fr7 x (by omega) (by omega) (by omega) (by omega), Or.inr (Or.inl ⟨by rw [hS6], by rw [hS6]; show 8 - mm j < c; omega, rfl, h.pieces e7 (hT0 _ (fr7 _ (by omega) (by omega) (by omega) (by omega))) hL7 (fun x _ _ => fr7 x (by omega) (by omega) (by omega) (by omega)) v7 l7 u7⟩)⟩
    have hc8 : c ≤ 8 := by omega
    rw [hS6] at hok
    have hok : ∀ k, k < c → r_ok (rs k) := hok rfl hc8
    obtain ⟨r', hr'⟩ : ∃ r' : Nat → Rl, r' = fun k => if k < mm j then rr j k else rs (k - mm j) := ⟨_, rfl⟩
    have r'1 : ∀ k, k < mm j → r' k = rr j k := fun k hk => by rw [hr']; exact if_pos hk
    have r'2 : ∀ k, r' (mm j + k) = rs k := fun k => by
      rw [hr']
      show (if mm j + k < mm j then rr j (mm j + k) else rs (mm j + k - mm j)) = rs k
      rw [if_neg (by omega), Nat.add_sub_cancel_left]
    have hR7 : o_mR E M7 W (va_up mm j (mm j + 0)) (va_up rr j r') := by
      obtain ⟨⟨a1, a2, a3⟩, ⟨b1, b2, b3⟩, c1, c2, c3⟩ := hL7.rows
      have key : ∀ j' i, i < va_up mm j (mm j + 0) j' → i < mm j' ∧ va_up rr j r' j' i = rr j' i := by
        intro j' i hi
        by_cases e : j' = j
        · subst e
          rw [va_up_self] at hi ⊢
          exact ⟨by omega, r'1 i (by omega)⟩
        · rw [va_up_ne _ _ e] at hi ⊢
          exact ⟨hi, rfl⟩
      refine ⟨⟨a1, a2, fun j' i hj' hi => ?_⟩, ⟨b1, b2, fun j' i g hj' hi hg => ?_⟩, c1, c2, fun j' i g hj' hi hg => ?_⟩
      · rw [(key j' i hi).2]; exact a3 j' i hj' (key j' i hi).1
      · rw [(key j' i hi).2]; exact b3 j' i g hj' (key j' i hi).1 hg
      · rw [(key j' i hi).2]; exact c3 j' i g hj' (key j' i hi).1 hg
    refine g_iconst (v := nI 0) d_Mo_read_111 (by decide) ?_
    refine g_istore_n d_Mo_read_112 (by decide) ?_
    refine g_for (P := fun i => ∀ (M8 : gM) (y3 y4 : Option Value), o_mR E M8 W (va_up mm j (mm j + i)) (va_up rr j r') → (∀ x, x ≠ W + 2 → x ≠ W + 3 → x ≠ W + 4 → M8 x = M7 x) → G _ _ _ _ _ _ _ _ _ _ _ _ 113 [some (.ref W), some (.int (nI j)), some (.int (nI i)), y3, y4] [] _ M8 0 0) (e := c) ?_ ?_ 0 (by omega) M7 none none hR7 (fun _ _ _ _ => rfl)
    · intro M8 y3 y4 hR8 f8
      have e8 := (f8 W (by omega) (by omega) (by omega)).trans e7
      have d8 := (f8 (W + 5) (by omega) (by omega) (by omega)).trans d1
      have v8 := (f8 (W + 10) (by omega) (by omega) (by omega)).trans v7
      have l8 := (f8 (W + 11) (by omega) (by omega) (by omega)).trans l7
      have u8 := (f8 (W + 12) (by omega) (by omega) (by omega)).trans u7
      refine g_iload_n d_Mo_read_113 rfl ?_
      refine g_aload_n d_Mo_read_114 rfl ?_
      refine g_get f_Mo_102 (by assumption) rfl d_Mo_read_115 ?_
      refine g_icmpN_ge (tgt := 212) d_Mo_read_118 (by decide) (by omega) (by omega) (fun hb_118 => ?_) (fun hb_118 => ?_)
      rotate_left
      · omega
      refine g_aload_n d_Mo_read_212 rfl ?_
      refine g_get f_Mo_22 (by assumption) rfl d_Mo_read_213 ?_
      refine g_iload_n d_Mo_read_216 rfl ?_
      refine g_dup2 d_Mo_read_217 rfl rfl ?_
      refine g_iald _ (by assumption) rfl (by omega) (by decide) d_Mo_read_218 ?_
      refine g_eqi (d2 j hj) ?_
      refine g_aload_n d_Mo_read_219 rfl ?_
      refine g_get f_Mo_102 (by assumption) rfl d_Mo_read_220 ?_
      refine g_iadd d_Mo_read_223 ?_
      refine g_eqi (nI_add _ _) ?_
      refine g_iast _ (by assumption) rfl (by omega) (by decide) d_Mo_read_224 ?_
      refine g_nm (fun M9 d9 f9 => ?_)
      have e9 := (f9 W (by omega)).trans e8
      have hL9 : o_ml E M9 W (va_up mm j (mm j + c)) (va_up rr j r') := by
        refine o_ml.of (fun j' hj' => ?_) (hR8.kept (fun x _ _ => f9 x (by omega))) (fun j' _ => Nat.le_refl _) ⟨_, d9, fun j' hj' => ?_⟩
        · by_cases e : j' = j
          · subst e
            rw [va_up_self, va_up_self]
            refine ⟨by omega, fun i hi => ?_⟩
            by_cases ci : i < mm j'
            · rw [r'1 i ci]; exact (hL.1 j' hj').2 i ci
            · obtain ⟨k, rfl⟩ : ∃ k, i = mm j' + k := ⟨i - mm j', by omega⟩
              rw [r'2]; exact hok k (by omega)
          · rw [va_up_ne _ _ e, va_up_ne _ _ e]; exact hL.1 j' hj'
        · by_cases e : j' = j
          · subst e; rw [pk_us, va_up_self]
          · rw [pk_un e, va_up_ne _ _ e]; exact d2 j' hj'
      have fr9 : ∀ x, (x < W ∨ W + 12 < x ∨ x = W + 1 ∨ W + 6 ≤ x ∧ x ≤ W + 9) → M9 x = M x := fun x hx => (f9 x (by omega)).trans ((f8 x (by omega) (by omega) (by omega)).trans (fr7 x (by omega) (by omega) (by omega) (by omega)))
      have hfin := h.pieces e9 (hT0 _ (fr9 _ (by omega))) hL9 (fun x _ _ => fr9 x (by omega)) ((f9 _ (by omega)).trans v8) ((f9 _ (by omega)).trans l8) ((f9 _ (by omega)).trans u8)
      refine g_aload_n d_Mo_read_225 rfl ?_
      refine g_get f_Mo_102 (by assumption) rfl d_Mo_read_226 ?_
      exact g_ireturn rfl rfl (by omega) (by omega) d_Mo_read_229 ⟨_, rfl, rfl, fun x hx => fr9 x (by omega), Or.inr (Or.inr ⟨by rw [hS6], by rw [hS6]; show c ≤ 8 - mm j; omega, by rw [hS6], by rw [hS6]; exact ⟨r', hfin, r'1, fun k _ => r'2 k⟩⟩)⟩
    · intro i hi ih M8 y3 y4 hR8 f8
      have e8 := (f8 W (by omega) (by omega) (by omega)).trans e7
      have d8 := (f8 (W + 5) (by omega) (by omega) (by omega)).trans d1
      have v8 := (f8 (W + 10) (by omega) (by omega) (by omega)).trans v7
      have l8 := (f8 (W + 11) (by omega) (by omega) (by omega)).trans l7
      have u8 := (f8 (W + 12) (by omega) (by omega) (by omega)).trans u7
      have r8 := r6 i hi (by omega)
      obtain ⟨⟨gv, a1, a2⟩, ⟨gl, b1, b2⟩, gh, c1, c2⟩ := id hR8
      refine g_iload_n d_Mo_read_113 rfl ?_
      refine g_aload_n d_Mo_read_114 rfl ?_
      refine g_get f_Mo_102 (by assumption) rfl d_Mo_read_115 ?_
      refine g_icmpN_ge (tgt := 212) d_Mo_read_118 (by decide) (by omega) (by omega) (fun hb_118 => ?_) (fun hb_118 => ?_)
      · omega
      refine g_bipush (v := nI 8) d_Mo_read_121 (by decide) ?_
      refine g_iload_n d_Mo_read_123 rfl ?_
      refine g_imul d_Mo_read_124 ?_
      refine g_eqi (pk_mul _ _) ?_
      refine g_aload_n d_Mo_read_125 rfl ?_
      refine g_get f_Mo_22 (by assumption) rfl d_Mo_read_126 ?_
      refine g_iload_n d_Mo_read_129 rfl ?_
      refine g_iald _ (by assumption) rfl (by omega) (by decide) d_Mo_read_130 ?_
      refine g_eqi (d2 j hj) ?_
      refine g_iadd d_Mo_read_131 ?_
      refine g_eqi (nI_add _ _) ?_
      refine g_iload_n d_Mo_read_132 rfl ?_
      refine g_iadd d_Mo_read_133 ?_
      refine g_eqi (nI_add _ _) ?_
      obtain ⟨T, hTT⟩ : ∃ T, T = 8 * j + mm j + i := ⟨_, rfl⟩
      rw [← hTT]
      refine g_istore_n d_Mo_read_134 (by decide) ?_
      refine g_aload_n d_Mo_read_135 rfl ?_
      refine g_get f_Mo_13 (by assumption) rfl d_Mo_read_136 ?_
      refine g_iload_n d_Mo_read_139 rfl ?_
      refine g_aload_n d_Mo_read_140 rfl ?_
      refine g_get f_Mo_37 (by assumption) rfl d_Mo_read_141 ?_
      refine g_iload_n d_Mo_read_144 rfl ?_
      refine g_iald _ (by assumption) rfl (by omega) (by decide) d_Mo_read_145 ?_
      refine g_eqi r8.1 ?_
      refine g_iast _ (by assumption) rfl (by omega) (by decide) d_Mo_read_146 ?_
      refine g_nm (fun M9 a9 f9 => ?_)
      have b9 := (f9 (W + 3) (by omega)).trans b1
      have c9 := (f9 (W + 4) (by omega)).trans c1
      refine g_iconst (v := nI 0) d_Mo_read_147 (by decide) ?_
      refine g_istore d_Mo_read_148 (by decide) ?_
      refine g_for (P := fun g => ∀ (MA : gM) (fA hA : Nat → Int32), MA (W + 3) = some (g_ia E 64 fA) → MA (W + 4) = some (g_ia E 64 hA) → (∀ t, t < g → fA (4 * T + t) = nI ((rs i).2.1 t) ∧ hA (4 * T + t) = nI ((rs i).2.2 t)) → (∀ x, (x < 4 * T ∨ 4 * T + 4 ≤ x) → fA x = gl x ∧ hA x = gh x) → (∀ x, x ≠ W + 3 → x ≠ W + 4 → MA x = M9 x) → G _ _ _ _ _ _ _ _ _ _ _ _ 150 [some (.ref W), some (.int (nI j)), some (.int (nI i)), some (.int (nI T)), some (.int (nI g))] [] _ MA 0 0) (e := 4) ?_ ?_ 0 (by omega) M9 gl gh b9 c9 (fun t ht => by omega) (fun _ _ => ⟨rfl, rfl⟩) (fun _ _ _ => rfl)
      · intro MA fA hA bA cA rA oA fRA
        have aA := (fRA (W + 2) (by omega) (by omega)).trans a9
        refine g_iload d_Mo_read_150 rfl ?_
        refine g_iconst (v := nI 4) d_Mo_read_152 (by decide) ?_
        refine g_icmpN_ge (tgt := 206) d_Mo_read_153 (by decide) (by omega) (by omega) (fun hb_153 => ?_) (fun hb_153 => ?_)
        rotate_left
        · omega
        refine g_iinc1 d_Mo_read_206 rfl (by decide) ?_
        refine g_goto (tgt := 113) d_Mo_read_209 (by decide) ?_
        refine ih MA _ _ ⟨⟨_, aA, fun j' i' hj' hi' => ?_⟩, ⟨_, bA, fun j' i' g hj' hi' hg => ?_⟩, _, cA, fun j' i' g hj' hi' hg => ?_⟩ (fun x x1 x2 x3 => (fRA x x2 x3).trans ((f9 x x1).trans (f8 x x1 x2 x3)))
        · by_cases e : j' = j
          · subst e
            rw [va_up_self] at hi' ⊢
            by_cases q : i' = mm j' + i
            · subst q
              rw [show 8 * j' + (mm j' + i) = T by omega, pk_us, r'2]
            · rw [pk_un (by omega)]
              have := a2 j' i' hj' (by rw [va_up_self]; omega)
              rw [va_up_self] at this
              exact this
          · rw [va_up_ne _ _ e] at hi' ⊢
            have b8 := (hL.1 j' hj').1
            rw [pk_un (by omega)]
            have := a2 j' i' hj' (by rw [va_up_ne _ _ e]; exact hi')
            rw [va_up_ne _ _ e] at this
            exact this
        · by_cases e : j' = j
          · subst e
            rw [va_up_self] at hi' ⊢
            by_cases q : i' = mm j' + i
            · subst q
              rw [show 8 * j' + (mm j' + i) = T by omega, r'2]
              exact (rA g hg).1
            · rw [(oA (4 * (8 * j' + i') + g) (by omega)).1]
              have := b2 j' i' g hj' (by rw [va_up_self]; omega) hg
              rw [va_up_self] at this
              exact this
          · rw [va_up_ne _ _ e] at hi' ⊢
            have b8 := (hL.1 j' hj').1
            rw [(oA (4 * (8 * j' + i') + g) (by omega)).1]
            have := b2 j' i' g hj' (by rw [va_up_ne _ _ e]; exact hi') hg
            rw [va_up_ne _ _ e] at this
            exact this
        · by_cases e : j' = j
          · subst e
            rw [va_up_self] at hi' ⊢
            by_cases q : i' = mm j' + i
            · subst q
              rw [show 8 * j' + (mm j' + i) = T by omega, r'2]
              exact (rA g hg).2
            · rw [(oA (4 * (8 * j' + i') + g) (by omega)).2]
              have := c2 j' i' g hj' (by rw [va_up_self]; omega) hg
              rw [va_up_self] at this
              exact this
          · rw [va_up_ne _ _ e] at hi' ⊢
            have b8 := (hL.1 j' hj').1
            rw [(oA (4 * (8 * j' + i') + g) (by omega)).2]
            have := c2 j' i' g hj' (by rw [va_up_ne _ _ e]; exact hi') hg
            rw [va_up_ne _ _ e] at this
            exact this
      · intro g hg ihg MA fA hA bA cA rA oA fRA
        have rg := r8.2 g hg
        have eA := (fRA W (by omega) (by omega)).trans ((f9 W (by omega)).trans e8)
        have lA := (fRA (W + 11) (by omega) (by omega)).trans ((f9 (W + 11) (by omega)).trans l8)
        have uA := (fRA (W + 12) (by omega) (by omega)).trans ((f9 (W + 12) (by omega)).trans u8)
        refine g_iload d_Mo_read_150 rfl ?_
        refine g_iconst (v := nI 4) d_Mo_read_152 (by decide) ?_
        refine g_icmpN_ge (tgt := 206) d_Mo_read_153 (by decide) (by omega) (by omega) (fun hb_153 => ?_) (fun hb_153 => ?_)
        · omega
        refine g_aload_n d_Mo_read_156 rfl ?_
        refine g_get f_Mo_16 (by assumption) rfl d_Mo_read_157 ?_
        refine g_iconst (v := nI 4) d_Mo_read_160 (by decide) ?_
        refine g_iload_n d_Mo_read_161 rfl ?_
        refine g_imul d_Mo_read_162 ?_
        refine g_eqi (pk_mul _ _) ?_
        refine g_iload d_Mo_read_163 rfl ?_
        refine g_iadd d_Mo_read_165 ?_
        refine g_eqi (nI_add _ _) ?_
        refine g_aload_n d_Mo_read_166 rfl ?_
        refine g_get f_Mo_40 (by assumption) rfl d_Mo_read_167 ?_
        refine g_iconst (v := nI 4) d_Mo_read_170 (by decide) ?_
        refine g_iload_n d_Mo_read_171 rfl ?_
        refine g_imul d_Mo_read_172 ?_
        refine g_eqi (pk_mul _ _) ?_
        refine g_iload d_Mo_read_173 rfl ?_
        refine g_iadd d_Mo_read_175 ?_
        refine g_eqi (nI_add _ _) ?_
        refine g_iald _ (by assumption) rfl (by omega) (by decide) d_Mo_read_176 ?_
        refine g_eqi rg.1 ?_
        refine g_iast _ (by assumption) rfl (by omega) (by decide) d_Mo_read_177 ?_
        refine g_nm (fun MB bB fB => ?_)
        have eB := (fB W (by omega)).trans eA
        have cB := (fB (W + 4) (by omega)).trans cA
        have uB := (fB (W + 12) (by omega)).trans uA
        refine g_aload_n d_Mo_read_178 rfl ?_
        refine g_get f_Mo_19 (by assumption) rfl d_Mo_read_179 ?_
        refine g_iconst (v := nI 4) d_Mo_read_182 (by decide) ?_
        refine g_iload_n d_Mo_read_183 rfl ?_
        refine g_imul d_Mo_read_184 ?_
        refine g_eqi (pk_mul _ _) ?_
        refine g_iload d_Mo_read_185 rfl ?_
        refine g_iadd d_Mo_read_187 ?_
        refine g_eqi (nI_add _ _) ?_
        refine g_aload_n d_Mo_read_188 rfl ?_
        refine g_get f_Mo_43 (by assumption) rfl d_Mo_read_189 ?_
        refine g_iconst (v := nI 4) d_Mo_read_192 (by decide) ?_
        refine g_iload_n d_Mo_read_193 rfl ?_
        refine g_imul d_Mo_read_194 ?_
        refine g_eqi (pk_mul _ _) ?_
        refine g_iload d_Mo_read_195 rfl ?_
        refine g_iadd d_Mo_read_197 ?_
        refine g_eqi (nI_add _ _) ?_
        refine g_iald _ (by assumption) rfl (by omega) (by decide) d_Mo_read_198 ?_
        refine g_eqi rg.2 ?_
        refine g_iast _ (by assumption) rfl (by omega) (by decide) d_Mo_read_199 ?_
        refine g_nm (fun MC cC fC => ?_)
        have bC := (fC (W + 3) (by omega)).trans bB
        refine g_iinc1 d_Mo_read_200 rfl (by decide) ?_
        refine g_goto (tgt := 150) d_Mo_read_203 (by decide) ?_
        refine ihg MC _ _ bC cC (fun t ht => ?_) (fun x hx => ?_) (fun x x1 x2 => (fC x x2).trans ((fB x x1).trans (fRA x x1 x2)))
        · by_cases e : t = g
          · subst e; rw [pk_us, pk_us]; exact ⟨rfl, rfl⟩
          · rw [pk_un (by omega), pk_un (by omega)]; exact rA t (by omega)
        · rw [pk_un (by omega), pk_un (by omega)]; exact oA x hx
  refine g_for (P := fun c => ∀ (M6 : gM) (a : Nat) (rs : Nat → Rl) (fv fl fu : Nat → Int32), a ≤ tn → c ≤ a → M6 W = some (.inr (10, mo W (nI 0) (nI tn) (nI gn) (nI c) (nI a) (-1))) → M6 (W + 10) = some (g_ia E 8 fv) → M6 (W + 11) = some (g_ia E 32 fl) → M6 (W + 12) = some (g_ia E 32 fu) → (∀ t, t < c → t < 8 → fv t = nI (rs t).1 ∧ ∀ g, g < 4 → fl (4 * t + g) = nI ((rs t).2.1 g) ∧ fu (4 * t + g) = nI ((rs t).2.2 g)) → S = sTx tn ts (240 - c) c a rs → (∀ x, x ≠ W → x ≠ W + 10 → x ≠ W + 11 → x ≠ W + 12 → M6 x = M x) → G _ _ _ _ _ _ _ _ _ _ _ _ 43 [some (.ref W), some (.int (nI j)), none, none, none] [] _ M6 0 0) (e := 240) ?_ ?_ 0 (by omega) M5 (bh tn ts 0 1) z0 fv0 fl0 fu0 ((bh_in tn ts 0 1).2 (by omega)) (by omega) e5 ((fr5 _ (by omega)).trans v0) ((fr5 _ (by omega)).trans l0) ((fr5 _ (by omega)).trans u0) (fun t ht => by omega) hSe (fun x x1 _ _ _ => fr5 x x1)
  · intro M6 a rs fv fl fu ha hca e6 v6 l6 u6 r6 hS6 fr6
    refine g_aload_n d_Mo_read_43 rfl ?_
    refine g_get f_Mo_61 (by assumption) rfl d_Mo_read_44 ?_
    refine g_aload_n d_Mo_read_47 rfl ?_
    refine g_get f_Mo_54 (by assumption) rfl d_Mo_read_48 ?_
    refine g_icmpN_ge (tgt := 72) d_Mo_read_51 (by decide) (by omega) (by omega) (fun hb_51 => ?_) (fun hb_51 => ?_)
    · exact kA (M6, a, 240, rs, fv, fl, fu) ⟨hS6, by show a ≤ 300; omega, Nat.le_refl _, e6, v6, l6, u6, r6, fr6⟩
    · omega
  intro c hc ih M6 a rs fv fl fu ha hca e6 v6 l6 u6 r6 hS6 fr6
  rw [show 240 - c = (239 - c) + 1 by omega, sTx_s] at hS6
  rw [show 240 - (c + 1) = 239 - c by omega] at ih
  have hT6 := hT.kept (M' := M6) (fr6 _ (by omega) (by omega) (by omega) (by omega))
  refine g_aload_n d_Mo_read_43 rfl ?_
  refine g_get f_Mo_61 (by assumption) rfl d_Mo_read_44 ?_
  refine g_aload_n d_Mo_read_47 rfl ?_
  refine g_get f_Mo_54 (by assumption) rfl d_Mo_read_48 ?_
  refine g_icmpN_ge (tgt := 72) d_Mo_read_51 (by decide) (by omega) (by omega) (fun hb_51 => ?_) (fun hb_51 => ?_)
  · rw [if_pos hb_51] at hS6
    exact kA (M6, a, c, rs, fv, fl, fu) ⟨hS6, by show a ≤ 300; omega, by show c ≤ 240; omega, e6, v6, l6, u6, r6, fr6⟩
  rw [if_neg (by omega)] at hS6
  have hgt := sRu_gt (ts := ts) (z := rs (min c 7)) ha
  refine g_aload_n d_Mo_read_54 rfl ?_
  refine g_get f_Mo_67 (by assumption) rfl d_Mo_read_55 ?_
  refine g_if_ge (tgt := 72) d_Mo_read_58 (by decide) (fun hb => absurd hb (by decide)) (fun _ => ?_)
  refine g_aload_n d_Mo_read_61 rfl ?_
  refine g_callV s_Mo_116 sv_Mo_readRule (by assumption) rfl (k_Mo_readRule a c (rs (min c 7)) ha (by omega) e6 hT6 v6 l6 u6) (by omega) rfl (by omega) (by omega) rfl (Nat.le_of_ble_eq_true rfl) d_Mo_read_62 ?_
  rintro v' N' M7 ⟨rfl, rfl, ⟨p7, rc7, fa7, fv7, fl7, fu7, hp7, e7, v7, l7, u7, hcase⟩, f7⟩
  have fr7 : ∀ x, x ≠ W → x ≠ W + 10 → x ≠ W + 11 → x ≠ W + 12 → M7 x = M x := fun x x1 x2 x3 x4 => (f7 x x1 x2 x3 x4).trans (fr6 x x1 x2 x3 x4)
  have hT7 := hT.kept (M' := M7) (fr7 _ (by omega) (by omega) (by omega) (by omega))
  refine g_aload_n d_Mo_read_65 rfl ?_
  refine g_callV s_Mo_78 sv_Mo_blanks (by assumption) rfl (k_Mo_blanks p7 (by omega) e7 hT7) (by omega) rfl (by omega) (by omega) rfl (Nat.le_of_ble_eq_true rfl) d_Mo_read_66 ?_
  rintro v' N' M8 ⟨rfl, rfl, e8, f8⟩
  have v8 := (f8 (W + 10) (by omega)).trans v7
  have l8 := (f8 (W + 11) (by omega)).trans l7
  have u8 := (f8 (W + 12) (by omega)).trans u7
  have fr8 : ∀ x, x ≠ W → x ≠ W + 10 → x ≠ W + 11 → x ≠ W + 12 → M8 x = M x := fun x x1 x2 x3 x4 => (f8 x x1).trans (fr7 x x1 x2 x3 x4)
  generalize sRu tn ts a (rs (min c 7)) = s at hS6 hgt hcase
  rcases hcase with ⟨h1, rfl, rfl, h4, h5, h6, h7, h8⟩ | ⟨h1, rfl, h3⟩
  · rw [if_pos h1] at hS6
    rw [h4] at e8
    have hg := hgt h1
    refine g_goto (tgt := 43) d_Mo_read_69 (by decide) ?_
    refine ih M8 s.2.1 _ fv7 fl7 fu7 hg.2 (by omega) e8 v8 l8 u8 (fun t ht ht8 => ?_) hS6 fr8
    by_cases e : t = min c 7
    · rw [e, va_up_self]
      exact ⟨h5, h6⟩
    · rw [va_up_ne _ _ e, h7 t e]
      have hr := r6 t (by omega) ht8
      refine ⟨hr.1, fun g hg => ?_⟩
      have ho := h8 (4 * t + g) (by omega)
      rw [ho.1, ho.2]
      exact hr.2 g hg
  · rw [if_neg (by rw [h1]; decide)] at hS6
    have hS1 : S.1 = false := by rw [hS6]
    have hS2 : s.2.1 = S.2.1 := by rw [hS6]
    rw [hS2] at e8 h3
    have hp8 : bh tn ts p7 1 ≤ 300 := by
      by_cases cc : p7 ≤ tn
      · have := (bh_in tn ts p7 1).2 cc; omega
      · have : bh tn ts p7 1 = p7 := by unfold bh; rw [show tn - p7 = 0 by omega]; rfl
        omega
    generalize bh tn ts p7 1 = p8 at e8 hp8
    refine g_goto (tgt := 43) d_Mo_read_69 (by decide) ?_
    refine g_aload_n d_Mo_read_43 rfl ?_
    refine g_get f_Mo_61 (by assumption) rfl d_Mo_read_44 ?_
    refine g_aload_n d_Mo_read_47 rfl ?_
    refine g_get f_Mo_54 (by assumption) rfl d_Mo_read_48 ?_
    refine g_icmpN_ge (tgt := 72) d_Mo_read_51 (by decide) (by omega) (by omega) (fun hb_51 => ?_) (fun hb_51 => ?_)
    · skip
      refine g_aload_n d_Mo_read_72 rfl ?_
      refine g_iconst (v := nI 0) d_Mo_read_73 (by decide) ?_
      refine g_put p_Mo_54 (by assumption) (Nat.le_of_ble_eq_true rfl) rfl rfl d_Mo_read_74 ?_
      refine g_nm (fun MB eB fB => ?_)
      refine g_aload_n d_Mo_read_77 rfl ?_
      refine g_get f_Mo_67 (by assumption) rfl d_Mo_read_78 ?_
      refine g_ifN_lt (tgt := 91) d_Mo_read_81 (by decide) (by omega) (fun hb => hb.elim) (fun _ => ?_)
      refine g_iconst (v := -1) d_Mo_read_84 (by decide) ?_
      refine g_aload_n d_Mo_read_85 rfl ?_
      refine g_get f_Mo_67 (by assumption) rfl d_Mo_read_86 ?_
      refine g_isub d_Mo_read_89 ?_
      exact g_ireturn rfl rfl (by omega) (by omega) d_Mo_read_90 ⟨_, rfl, rfl, fun x hx => (fB x (by omega)).trans (fr8 x (by omega) (by omega) (by omega) (by omega)), Or.inl ⟨hS1, rfl, h.pieces eB (hT0 _ ((fB _ (by omega)).trans (fr8 _ (by omega) (by omega) (by omega) (by omega)))) (hL.kept (fun x _ _ => (fB x (by omega)).trans (fr8 x (by omega) (by omega) (by omega) (by omega)))) (fun x _ _ => (fB x (by omega)).trans (fr8 x (by omega) (by omega) (by omega) (by omega))) ((fB _ (by omega)).trans v8) ((fB _ (by omega)).trans l8) ((fB _ (by omega)).trans u8)⟩⟩
    · refine g_aload_n d_Mo_read_54 rfl ?_
      refine g_get f_Mo_67 (by assumption) rfl d_Mo_read_55 ?_
      refine g_ifN_ge (tgt := 72) d_Mo_read_58 (by decide) (by omega) (fun _ => ?_) (fun hb => hb.elim)
      refine g_aload_n d_Mo_read_72 rfl ?_
      refine g_iconst (v := nI 0) d_Mo_read_73 (by decide) ?_
      refine g_put p_Mo_54 (by assumption) (Nat.le_of_ble_eq_true rfl) rfl rfl d_Mo_read_74 ?_
      refine g_nm (fun MB eB fB => ?_)
      refine g_aload_n d_Mo_read_77 rfl ?_
      refine g_get f_Mo_67 (by assumption) rfl d_Mo_read_78 ?_
      refine g_ifN_lt (tgt := 91) d_Mo_read_81 (by decide) (by omega) (fun hb => hb.elim) (fun _ => ?_)
      refine g_iconst (v := -1) d_Mo_read_84 (by decide) ?_
      refine g_aload_n d_Mo_read_85 rfl ?_
      refine g_get f_Mo_67 (by assumption) rfl d_Mo_read_86 ?_
      refine g_isub d_Mo_read_89 ?_
      exact g_ireturn rfl rfl (by omega) (by omega) d_Mo_read_90 ⟨_, rfl, rfl, fun x hx => (fB x (by omega)).trans (fr8 x (by omega) (by omega) (by omega) (by omega)), Or.inl ⟨hS1, rfl, h.pieces eB (hT0 _ ((fB _ (by omega)).trans (fr8 _ (by omega) (by omega) (by omega) (by omega)))) (hL.kept (fun x _ _ => (fB x (by omega)).trans (fr8 x (by omega) (by omega) (by omega) (by omega)))) (fun x _ _ => (fB x (by omega)).trans (fr8 x (by omega) (by omega) (by omega) (by omega))) ((fB _ (by omega)).trans v8) ((fB _ (by omega)).trans l8) ((fB _ (by omega)).trans u8)⟩⟩
theorem x_Mo_read (h : OM E M W th tn ts mm rr gn gs) (x : Int32) (hx : noN x 2) : Ctr l E y_Mo_read 5 [.ref W, .int x] N M 0 0 (g_ret (fun v N' M' => v = some (.int (nI 0)) ∧ N' = N ∧ OM E M' W (nI 1) tn ts mm rr gn gs ∧ ∀ x, x ≠ W → M' x = M x)) := by
  obtain ⟨⟨rc, pl, fa, hO⟩, hT, hL, hK, hS⟩ := h
  have h : OM E M W th tn ts mm rr gn gs := ⟨⟨rc, pl, fa, hO⟩, hT, hL, hK, hS⟩
  have hin := inI_no (k := 1) hx (by omega)
  refine ctr_of [some (.ref W), some (.int x), none, none, none] (by decide) w_976 rfl rfl (Nat.le_of_ble_eq_true rfl) (fun Γ => ?_)
  refine g_aload_n d_Mo_read_0 rfl ?_
  refine g_iload_n d_Mo_read_1 rfl ?_
  refine g_iconst (v := nI 0) d_Mo_read_2 (by decide) ?_
  refine g_iconst (v := nI 1) d_Mo_read_3 (by decide) ?_
  refine g_callS s_Mo_112 sv_Mo_in (g_of_val (k_Mo_in _ _ _)) (by omega) rfl (by omega) (by omega) rfl (Nat.le_of_ble_eq_true rfl) d_Mo_read_4 ?_
  rintro _ _ _ ⟨rfl, rfl, rfl⟩
  first | refine g_ifB_ne (tgt := 14) d_Mo_read_7 (by decide) (fun hb_7 => ?_) (fun hb_7 => ?_) | refine g_ifN_ne (tgt := 14) d_Mo_read_7 (by decide) (by omega) (fun hb_7 => ?_) (fun hb_7 => ?_)
  · rw [hin] at hb_7; cases hb_7
  · refine g_iconst (v := nI 1) d_Mo_read_10 (by decide) ?_
    refine g_goto (tgt := 15) d_Mo_read_11 (by decide) ?_
    refine g_iconst (v := nI 0) d_Mo_read_15 (by decide) ?_
    refine g_callV s_Mo_57 sv_Mo_refuse (by assumption) rfl (k_Mo_refuse hO true false) (by omega) rfl (by omega) (by omega) rfl (Nat.le_of_ble_eq_true rfl) d_Mo_read_16 ?_
    rintro v' N' M1 ⟨rfl, rfl, e1, f1⟩
    first | refine g_ifB_eq (tgt := 24) d_Mo_read_19 (by decide) (fun hb_19 => ?_) (fun hb_19 => ?_) | refine g_ifN_eq (tgt := 24) d_Mo_read_19 (by decide) (by omega) (fun hb_19 => ?_) (fun hb_19 => ?_)
    · cases hb_19
    · refine g_iconst (v := nI 0) d_Mo_read_22 (by decide) ?_
      exact g_ireturn rfl rfl (by omega) (by omega) d_Mo_read_23 ⟨_, rfl, rfl, rfl, h.own e1 f1, f1⟩
end MREAD

