section MSWAP
variable {l : Launch} {E : gE} {N : Nat} {M : gM} {W tn : Nat} {th : Int32} {ts : Nat → Nat} {mm : Nat → Nat} {rr : Nat → Nat → Rl} {gn : Nat} {gs : Nat → Nat}
theorem inD_yes {i m : Nat} (h : i + 1 < m) (hm : m ≤ 8) : inI (nI i) (nI 0) (nI m - nI 2) = true := by
  rw [pk_sub (by omega)]
  exact inI_yes (by omega) (by omega)
theorem inD_no {x : Int32} {m : Nat} (h : noN x (m - 1)) (hm : m ≤ 8) : inI x (nI 0) (nI m - nI 2) = false := by
  by_cases c : 2 ≤ m
  · rw [pk_sub c]
    exact inI_no (k := m - 2) (by rw [show m - 2 + 1 = m - 1 by omega]; exact h) (by omega)
  · have hneg : nI m - nI 2 < nI 0 := by
      have : m = 0 ∨ m = 1 := by omega
      rcases this with rfl | rfl <;> decide
    unfold inI
    by_cases c : x < nI 0
    · rw [decide_eq_true c]; rfl
    · obtain ⟨j, h1, h2⟩ := nI_of c
      have : nI m - nI 2 < x := by
        rw [h2]
        exact Int32.lt_of_lt_of_le (b := 0) hneg (nI_pos' h1)
      rw [decide_eq_true this, Bool.not_true, Bool.and_false]
/-- two rows of four are exchanged -/
def sw4 (f f' : Nat → Int32) (a n : Nat) : Prop := (∀ g, g < n → f' (4 * a + g) = f (4 * a + 4 + g) ∧ f' (4 * a + 4 + g) = f (4 * a + g)) ∧ ∀ x, (∀ g, g < n → x ≠ 4 * a + g ∧ x ≠ 4 * a + 4 + g) → f' x = f x
theorem sw4_step {f f' : Nat → Int32} {a n : Nat} (hn : n < 4) (h : sw4 f f' a n) : sw4 f (upd (upd f' (4 * a + n) (f (4 * a + 4 + n))) (4 * a + 4 + n) (f (4 * a + n))) a (n + 1) := by
  refine ⟨fun g hg => ?_, fun x hx => ?_⟩
  · by_cases e : g = n
    · subst e
      rw [pk_un (by omega), pk_us, pk_us]
      exact ⟨rfl, rfl⟩
    · rw [pk_un (by omega), pk_un (by omega), pk_un (by omega), pk_un (by omega)]
      exact h.1 g (by omega)
  · have := hx n (by omega)
    rw [pk_un this.2, pk_un this.1]
    exact h.2 x (fun g hg => hx g (by omega))
theorem k_Mo_swap (h : OM E M W th tn ts mm rr gn gs) (j i : Nat) (hj : j < 2) (hi : i + 1 < mm j) : Ctr l E y_Mo_swap 1 [.ref W, .int (nI j), .int (nI i)] N M 0 0 (g_ret (fun v N' M' => v = none ∧ N' = N ∧ OM E M' W (nI 0) tn ts (va_up mm j (mm j)) (va_up rr j (swp (rr j) i)) gn gs ∧ ∀ x, (x < W ∨ W + 12 < x) → M' x = M x)) := by
  obtain ⟨⟨rc, pl, fa, hO⟩, hT, hL, hK, hS⟩ := h
  have hm := (hL.1 j hj).1
  have hin := inI_yes (j := j) (k := 1) (by omega) (by omega)
  have hin2 := inD_yes hi hm
  have hL0 := hL
  obtain ⟨h1, ⟨fv, a1, a2⟩, ⟨fl, b1, b2⟩, ⟨fh, c1, c2⟩, fc, d1, d2⟩ := hL
  refine ctr_of [some (.ref W), some (.int (nI j)), some (.int (nI i)), none, none, none, none, none, none] (by decide) w_1048 rfl rfl (Nat.le_of_ble_eq_true rfl) (fun Γ => ?_)
  refine g_iload_n d_Mo_swap_0 rfl ?_
  refine g_iconst (v := nI 0) d_Mo_swap_1 (by decide) ?_
  refine g_iconst (v := nI 1) d_Mo_swap_2 (by decide) ?_
  refine g_callS s_Mo_112 sv_Mo_in (g_of_val (k_Mo_in _ _ _)) (by omega) rfl (by omega) (by omega) rfl (Nat.le_of_ble_eq_true rfl) d_Mo_swap_3 ?_
  rintro _ _ _ ⟨rfl, rfl, rfl⟩
  first | refine g_ifB_eq (tgt := 29) d_Mo_swap_6 (by decide) (fun hb_6 => ?_) (fun hb_6 => ?_) | refine g_ifN_eq (tgt := 29) d_Mo_swap_6 (by decide) (by omega) (fun hb_6 => ?_) (fun hb_6 => ?_)
  · rw [hin] at hb_6; cases hb_6
  refine g_iload_n d_Mo_swap_9 rfl ?_
  refine g_iconst (v := nI 0) d_Mo_swap_10 (by decide) ?_
  refine g_aload_n d_Mo_swap_11 rfl ?_
  refine g_get f_Mo_22 (by assumption) rfl d_Mo_swap_12 ?_
  refine g_iload_n d_Mo_swap_15 rfl ?_
  refine g_iald _ (by assumption) rfl (by omega) (by decide) d_Mo_swap_16 ?_
  refine g_eqi (d2 j hj) ?_
  refine g_iconst (v := nI 2) d_Mo_swap_17 (by decide) ?_
  refine g_isub d_Mo_swap_18 ?_
  refine g_callS s_Mo_112 sv_Mo_in (g_of_val (k_Mo_in _ _ _)) (by omega) rfl (by omega) (by omega) rfl (Nat.le_of_ble_eq_true rfl) d_Mo_swap_19 ?_
  rintro _ _ _ ⟨rfl, rfl, rfl⟩
  first | refine g_ifB_ne (tgt := 29) d_Mo_swap_22 (by decide) (fun hb_22 => ?_) (fun hb_22 => ?_) | refine g_ifN_ne (tgt := 29) d_Mo_swap_22 (by decide) (by omega) (fun hb_22 => ?_) (fun hb_22 => ?_)
  · refine g_iconst (v := nI 0) d_Mo_swap_29 (by decide) ?_
    refine g_istore_n d_Mo_swap_30 (by decide) ?_
    refine g_aload_n d_Mo_swap_31 rfl ?_
    refine g_iload_n d_Mo_swap_32 rfl ?_
    refine g_iconst (v := nI 0) d_Mo_swap_33 (by decide) ?_
    refine g_iconst (v := nI 1) d_Mo_swap_34 (by decide) ?_
    refine g_callS s_Mo_112 sv_Mo_in (g_of_val (k_Mo_in _ _ _)) (by omega) rfl (by omega) (by omega) rfl (Nat.le_of_ble_eq_true rfl) d_Mo_swap_35 ?_
    rintro _ _ _ ⟨rfl, rfl, rfl⟩
    first | refine g_ifB_ne (tgt := 45) d_Mo_swap_38 (by decide) (fun hb_38 => ?_) (fun hb_38 => ?_) | refine g_ifN_ne (tgt := 45) d_Mo_swap_38 (by decide) (by omega) (fun hb_38 => ?_) (fun hb_38 => ?_)
    · refine g_iconst (v := nI 0) d_Mo_swap_45 (by decide) ?_
      refine g_iload_n d_Mo_swap_46 rfl ?_
      refine g_callV s_Mo_57 sv_Mo_refuse (by assumption) rfl (k_Mo_refuse hO false false) (by omega) rfl (by omega) (by omega) rfl (Nat.le_of_ble_eq_true rfl) d_Mo_swap_47 ?_
      rintro v' N' M1 ⟨rfl, rfl, e1, f1⟩
      have a1' := (f1 _ (by omega)).trans a1
      first | refine g_ifB_eq (tgt := 54) d_Mo_swap_50 (by decide) (fun hb_50 => ?_) (fun hb_50 => ?_) | refine g_ifN_eq (tgt := 54) d_Mo_swap_50 (by decide) (by omega) (fun hb_50 => ?_) (fun hb_50 => ?_)
      · refine g_bipush (v := nI 8) d_Mo_swap_54 (by decide) ?_
        refine g_iload_n d_Mo_swap_56 rfl ?_
        refine g_imul d_Mo_swap_57 ?_
        refine g_eqi (pk_mul _ _) ?_
        refine g_iload_n d_Mo_swap_58 rfl ?_
        refine g_iadd d_Mo_swap_59 ?_
        refine g_eqi (nI_add _ _) ?_
        refine g_istore d_Mo_swap_60 (by decide) ?_
        refine g_aload_n d_Mo_swap_62 rfl ?_
        refine g_get f_Mo_13 (by assumption) rfl d_Mo_swap_63 ?_
        refine g_iload d_Mo_swap_66 rfl ?_
        refine g_iald _ (by assumption) rfl (by omega) (by decide) d_Mo_swap_68 ?_
        refine g_istore d_Mo_swap_69 (by decide) ?_
        refine g_aload_n d_Mo_swap_71 rfl ?_
        refine g_get f_Mo_13 (by assumption) rfl d_Mo_swap_72 ?_
        refine g_iload d_Mo_swap_75 rfl ?_
        refine g_aload_n d_Mo_swap_77 rfl ?_
        refine g_get f_Mo_13 (by assumption) rfl d_Mo_swap_78 ?_
        refine g_iload d_Mo_swap_81 rfl ?_
        refine g_iconst (v := nI 1) d_Mo_swap_83 (by decide) ?_
        refine g_iadd d_Mo_swap_84 ?_
        refine g_eqi (nI_add _ _) ?_
        refine g_iald _ (by assumption) rfl (by omega) (by decide) d_Mo_swap_85 ?_
        refine g_iast _ (by assumption) rfl (by omega) (by decide) d_Mo_swap_86 ?_
        refine g_nm (fun M2 e2 f2 => ?_)
        have g2 := (f2 W (by omega)).trans e1
        refine g_aload_n d_Mo_swap_87 rfl ?_
        refine g_get f_Mo_13 (by assumption) rfl d_Mo_swap_88 ?_
        refine g_iload d_Mo_swap_91 rfl ?_
        refine g_iconst (v := nI 1) d_Mo_swap_93 (by decide) ?_
        refine g_iadd d_Mo_swap_94 ?_
        refine g_eqi (nI_add _ _) ?_
        refine g_iload d_Mo_swap_95 rfl ?_
        refine g_iast _ (by assumption) rfl (by omega) (by decide) d_Mo_swap_97 ?_
        refine g_nm (fun M3 e3 f3 => ?_)
        have g3 := (f3 W (by omega)).trans g2
        have b3 := (f3 (W + 3) (by omega)).trans ((f2 _ (by omega)).trans ((f1 _ (by omega)).trans b1))
        have c3 := (f3 (W + 4) (by omega)).trans ((f2 _ (by omega)).trans ((f1 _ (by omega)).trans c1))
        refine g_iconst (v := nI 0) d_Mo_swap_98 (by decide) ?_
        refine g_istore d_Mo_swap_99 (by decide) ?_
        obtain ⟨A, hA⟩ : ∃ A, A = 8 * j + i := ⟨_, rfl⟩
        have hA15 : A + 1 < 16 := by omega
        rw [← hA] at e3 ⊢
        refine g_for (P := fun f => ∀ (M4 : gM) (fl' fh' : Nat → Int32) (y z : Option Value), M4 (W + 3) = some (g_ia E 64 fl') → M4 (W + 4) = some (g_ia E 64 fh') → sw4 fl fl' A f → sw4 fh fh' A f → (∀ x, x ≠ W + 3 → x ≠ W + 4 → M4 x = M3 x) → G _ _ _ _ _ _ _ _ _ _ _ _ 101 [some (.ref W), some (.int (nI j)), some (.int (nI i)), some (.int (nI 0)), some (.int (nI A)), some (.int (fv A)), some (.int (nI f)), y, z] [] _ M4 0 0) (e := 4) ?_ ?_ 0 (by omega) M3 fl fh none none b3 c3 ⟨fun g hg => by omega, fun _ _ => rfl⟩ ⟨fun g hg => by omega, fun _ _ => rfl⟩ (fun _ _ _ => rfl)
        · intro M4 fl' fh' y z p1 p2 p3 p4 p5
          have fr : ∀ x, x ≠ W → x ≠ W + 2 → x ≠ W + 3 → x ≠ W + 4 → M4 x = M x := fun x x1 x2 x3 x4 => (p5 x x3 x4).trans ((f3 x x2).trans ((f2 x x2).trans (f1 x x1)))
          refine g_iload d_Mo_swap_101 rfl ?_
          refine g_iconst (v := nI 4) d_Mo_swap_103 (by decide) ?_
          refine g_icmpN_ge (tgt := 225) d_Mo_swap_104 (by decide) (by omega) (by omega) (fun hb_104 => ?_) (fun hb_104 => ?_)
          · refine g_return rfl (by omega) (by omega) d_Mo_swap_225 ⟨_, rfl, rfl, rfl, ⟨⟨rc, pl, fa, (p5 _ (by omega) (by omega)).trans g3⟩, hT.kept (fr _ (by omega) (by omega) (by omega) (by omega)), ?_, hK.kept (fr _ (by omega) (by omega) (by omega) (by omega)), hS.kept (fun x _ _ => fr x (by omega) (by omega) (by omega) (by omega))⟩, fun x hx => fr x (by omega) (by omega) (by omega) (by omega)⟩
            have emm : va_up mm j (mm j) = mm := by
              funext t
              by_cases e : t = j
              · subst e; rw [va_up_self]
              · rw [va_up_ne _ _ e]
            rw [emm]
            have hoth : ∀ t k, t < 2 → k < mm t → 8 * t + k ≠ A → 8 * t + k ≠ A + 1 → va_up rr j (swp (rr j) i) t k = rr t k := by
              intro t k ht hk n1 n2
              by_cases e : t = j
              · subst e
                rw [va_up_self]
                unfold swp
                rw [if_neg (by omega), if_neg (by omega)]
              · rw [va_up_ne _ _ e]
            have hs1 : va_up rr j (swp (rr j) i) j i = rr j (i + 1) := by
              rw [va_up_self]; unfold swp; rw [if_pos rfl]
            have hs2 : va_up rr j (swp (rr j) i) j (i + 1) = rr j i := by
              rw [va_up_self]; unfold swp; rw [if_neg (by omega), if_pos rfl]
            have hcase : ∀ t k, t < 2 → k < mm t → (8 * t + k = A → t = j ∧ k = i) ∧ (8 * t + k = A + 1 → t = j ∧ k = i + 1) := by
              intro t k ht hk
              have := (h1 t ht).1
              constructor <;> intro e <;> omega
            refine ⟨fun t ht => ⟨(h1 t ht).1, fun k hk => ?_⟩, ⟨_, (p5 _ (by omega) (by omega)).trans e3, fun t k ht hk => ?_⟩, ⟨fl', p1, fun t k f ht hk hf => ?_⟩, ⟨fh', p2, fun t k f ht hk hf => ?_⟩, fc, (fr _ (by omega) (by omega) (by omega) (by omega)).trans d1, d2⟩
            · by_cases n1 : 8 * t + k = A
              · obtain ⟨rfl, rfl⟩ := (hcase t k ht hk).1 n1
                rw [hs1]; exact (h1 t ht).2 _ hi
              · by_cases n2 : 8 * t + k = A + 1
                · obtain ⟨rfl, rfl⟩ := (hcase t k ht hk).2 n2
                  rw [hs2]; exact (h1 t ht).2 _ (by omega)
                · rw [hoth t k ht hk n1 n2]; exact (h1 t ht).2 k hk
            · by_cases n1 : 8 * t + k = A
              · obtain ⟨rfl, rfl⟩ := (hcase t k ht hk).1 n1
                rw [hs1, n1, pk_un (by omega), pk_us, hA]; exact a2 t (k + 1) ht hi
              · by_cases n2 : 8 * t + k = A + 1
                · obtain ⟨rfl, rfl⟩ := (hcase t k ht hk).2 n2
                  rw [hs2, n2, pk_us, hA]; exact a2 t i ht (by omega)
                · rw [hoth t k ht hk n1 n2, pk_un n2, pk_un n1]; exact a2 t k ht hk
            · by_cases n1 : 8 * t + k = A
              · obtain ⟨rfl, rfl⟩ := (hcase t k ht hk).1 n1
                rw [hs1, n1, (p3.1 f hf).1, hA, show 4 * (8 * t + k) + 4 + f = 4 * (8 * t + (k + 1)) + f by omega]; exact b2 t (k + 1) f ht hi hf
              · by_cases n2 : 8 * t + k = A + 1
                · obtain ⟨rfl, rfl⟩ := (hcase t k ht hk).2 n2
                  rw [hs2, n2, show 4 * (A + 1) + f = 4 * A + 4 + f by omega, (p3.1 f hf).2, hA]; exact b2 t i f ht (by omega) hf
                · rw [hoth t k ht hk n1 n2, p3.2 _ (fun g hg => by omega)]; exact b2 t k f ht hk hf
            · by_cases n1 : 8 * t + k = A
              · obtain ⟨rfl, rfl⟩ := (hcase t k ht hk).1 n1
                rw [hs1, n1, (p4.1 f hf).1, hA, show 4 * (8 * t + k) + 4 + f = 4 * (8 * t + (k + 1)) + f by omega]; exact c2 t (k + 1) f ht hi hf
              · by_cases n2 : 8 * t + k = A + 1
                · obtain ⟨rfl, rfl⟩ := (hcase t k ht hk).2 n2
                  rw [hs2, n2, show 4 * (A + 1) + f = 4 * A + 4 + f by omega, (p4.1 f hf).2, hA]; exact c2 t i f ht (by omega) hf
                · rw [hoth t k ht hk n1 n2, p4.2 _ (fun g hg => by omega)]; exact c2 t k f ht hk hf
          · omega
        · intro f hf ih M4 fl' fh' y z p1 p2 p3 p4 p5
          have g4 : M4 W = _ := (p5 W (by omega) (by omega)).trans g3
          have q1 := p3.2 (4 * A + f) (fun g hg => by omega)
          have q2 := p3.2 (4 * A + 4 + f) (fun g hg => by omega)
          have q3 := p4.2 (4 * A + f) (fun g hg => by omega)
          have q4 := p4.2 (4 * A + 4 + f) (fun g hg => by omega)
          refine g_iload d_Mo_swap_101 rfl ?_
          refine g_iconst (v := nI 4) d_Mo_swap_103 (by decide) ?_
          refine g_icmpN_ge (tgt := 225) d_Mo_swap_104 (by decide) (by omega) (by omega) (fun hb_104 => ?_) (fun hb_104 => ?_)
          · omega
          refine g_aload_n d_Mo_swap_107 rfl ?_
          refine g_get f_Mo_16 (by assumption) rfl d_Mo_swap_108 ?_
          refine g_iconst (v := nI 4) d_Mo_swap_111 (by decide) ?_
          refine g_iload d_Mo_swap_112 rfl ?_
          refine g_imul d_Mo_swap_114 ?_
          refine g_eqi (pk_mul _ _) ?_
          refine g_iload d_Mo_swap_115 rfl ?_
          refine g_iadd d_Mo_swap_117 ?_
          refine g_eqi (nI_add _ _) ?_
          refine g_iald _ (by assumption) rfl (by omega) (by decide) d_Mo_swap_118 ?_
          refine g_eqi q1 ?_
          refine g_istore d_Mo_swap_119 (by decide) ?_
          refine g_aload_n d_Mo_swap_121 rfl ?_
          refine g_get f_Mo_16 (by assumption) rfl d_Mo_swap_122 ?_
          refine g_iconst (v := nI 4) d_Mo_swap_125 (by decide) ?_
          refine g_iload d_Mo_swap_126 rfl ?_
          refine g_imul d_Mo_swap_128 ?_
          refine g_eqi (pk_mul _ _) ?_
          refine g_iload d_Mo_swap_129 rfl ?_
          refine g_iadd d_Mo_swap_131 ?_
          refine g_eqi (nI_add _ _) ?_
          refine g_aload_n d_Mo_swap_132 rfl ?_
          refine g_get f_Mo_16 (by assumption) rfl d_Mo_swap_133 ?_
          refine g_iconst (v := nI 4) d_Mo_swap_136 (by decide) ?_
          refine g_iload d_Mo_swap_137 rfl ?_
          refine g_imul d_Mo_swap_139 ?_
          refine g_eqi (pk_mul _ _) ?_
          refine g_iconst (v := nI 4) d_Mo_swap_140 (by decide) ?_
          refine g_iadd d_Mo_swap_141 ?_
          refine g_eqi (nI_add _ _) ?_
          refine g_iload d_Mo_swap_142 rfl ?_
          refine g_iadd d_Mo_swap_144 ?_
          refine g_eqi (nI_add _ _) ?_
          refine g_iald _ (by assumption) rfl (by omega) (by decide) d_Mo_swap_145 ?_
          refine g_eqi q2 ?_
          refine g_iast _ (by assumption) rfl (by omega) (by decide) d_Mo_swap_146 ?_
          refine g_nm (fun M5 e5 f5 => ?_)
          have g5 := (f5 W (by omega)).trans g4
          refine g_aload_n d_Mo_swap_147 rfl ?_
          refine g_get f_Mo_16 (by assumption) rfl d_Mo_swap_148 ?_
          refine g_iconst (v := nI 4) d_Mo_swap_151 (by decide) ?_
          refine g_iload d_Mo_swap_152 rfl ?_
          refine g_imul d_Mo_swap_154 ?_
          refine g_eqi (pk_mul _ _) ?_
          refine g_iconst (v := nI 4) d_Mo_swap_155 (by decide) ?_
          refine g_iadd d_Mo_swap_156 ?_
          refine g_eqi (nI_add _ _) ?_
          refine g_iload d_Mo_swap_157 rfl ?_
          refine g_iadd d_Mo_swap_159 ?_
          refine g_eqi (nI_add _ _) ?_
          refine g_iload d_Mo_swap_160 rfl ?_
          refine g_iast _ (by assumption) rfl (by omega) (by decide) d_Mo_swap_162 ?_
          refine g_nm (fun M6 e6 f6 => ?_)
          have g6 := (f6 W (by omega)).trans g5
          have c6 := (f6 (W + 4) (by omega)).trans ((f5 (W + 4) (by omega)).trans p2)
          refine g_aload_n d_Mo_swap_163 rfl ?_
          refine g_get f_Mo_19 (by assumption) rfl d_Mo_swap_164 ?_
          refine g_iconst (v := nI 4) d_Mo_swap_167 (by decide) ?_
          refine g_iload d_Mo_swap_168 rfl ?_
          refine g_imul d_Mo_swap_170 ?_
          refine g_eqi (pk_mul _ _) ?_
          refine g_iload d_Mo_swap_171 rfl ?_
          refine g_iadd d_Mo_swap_173 ?_
          refine g_eqi (nI_add _ _) ?_
          refine g_iald _ (by assumption) rfl (by omega) (by decide) d_Mo_swap_174 ?_
          refine g_eqi q3 ?_
          refine g_istore d_Mo_swap_175 (by decide) ?_
          refine g_aload_n d_Mo_swap_177 rfl ?_
          refine g_get f_Mo_19 (by assumption) rfl d_Mo_swap_178 ?_
          refine g_iconst (v := nI 4) d_Mo_swap_181 (by decide) ?_
          refine g_iload d_Mo_swap_182 rfl ?_
          refine g_imul d_Mo_swap_184 ?_
          refine g_eqi (pk_mul _ _) ?_
          refine g_iload d_Mo_swap_185 rfl ?_
          refine g_iadd d_Mo_swap_187 ?_
          refine g_eqi (nI_add _ _) ?_
          refine g_aload_n d_Mo_swap_188 rfl ?_
          refine g_get f_Mo_19 (by assumption) rfl d_Mo_swap_189 ?_
          refine g_iconst (v := nI 4) d_Mo_swap_192 (by decide) ?_
          refine g_iload d_Mo_swap_193 rfl ?_
          refine g_imul d_Mo_swap_195 ?_
          refine g_eqi (pk_mul _ _) ?_
          refine g_iconst (v := nI 4) d_Mo_swap_196 (by decide) ?_
          refine g_iadd d_Mo_swap_197 ?_
          refine g_eqi (nI_add _ _) ?_
          refine g_iload d_Mo_swap_198 rfl ?_
          refine g_iadd d_Mo_swap_200 ?_
          refine g_eqi (nI_add _ _) ?_
          refine g_iald _ (by assumption) rfl (by omega) (by decide) d_Mo_swap_201 ?_
          refine g_eqi q4 ?_
          refine g_iast _ (by assumption) rfl (by omega) (by decide) d_Mo_swap_202 ?_
          refine g_nm (fun M7 e7 f7 => ?_)
          have g7 := (f7 W (by omega)).trans g6
          refine g_aload_n d_Mo_swap_203 rfl ?_
          refine g_get f_Mo_19 (by assumption) rfl d_Mo_swap_204 ?_
          refine g_iconst (v := nI 4) d_Mo_swap_207 (by decide) ?_
          refine g_iload d_Mo_swap_208 rfl ?_
          refine g_imul d_Mo_swap_210 ?_
          refine g_eqi (pk_mul _ _) ?_
          refine g_iconst (v := nI 4) d_Mo_swap_211 (by decide) ?_
          refine g_iadd d_Mo_swap_212 ?_
          refine g_eqi (nI_add _ _) ?_
          refine g_iload d_Mo_swap_213 rfl ?_
          refine g_iadd d_Mo_swap_215 ?_
          refine g_eqi (nI_add _ _) ?_
          refine g_iload d_Mo_swap_216 rfl ?_
          refine g_iast _ (by assumption) rfl (by omega) (by decide) d_Mo_swap_218 ?_
          refine g_nm (fun M8 e8 f8 => ?_)
          refine g_iinc1 d_Mo_swap_219 rfl (by decide) ?_
          refine g_goto (tgt := 101) d_Mo_swap_222 (by decide) ?_
          exact ih M8 _ _ _ _ ((f8 _ (by omega)).trans ((f7 _ (by omega)).trans e6)) e8 (sw4_step hf p3) (sw4_step hf p4) (fun x x1 x2 => (f8 x x2).trans ((f7 x x2).trans ((f6 x x1).trans ((f5 x x1).trans (p5 x x1 x2)))))
      · exact absurd hb_50 (by decide)
    · rw [hin] at hb_38; cases hb_38
  · rw [hin2] at hb_22; cases hb_22
theorem x_Mo_swap (h : OM E M W th tn ts mm rr gn gs) (j : Nat) (hj : j < 2) (y : Int32) (hy : noN y (mm j - 1)) : Ctr l E y_Mo_swap 1 [.ref W, .int (nI j), .int y] N M 0 0 (g_ret (fun v N' M' => v = none ∧ N' = N ∧ OM E M' W (nI 2) tn ts mm rr gn gs ∧ ∀ x, x ≠ W → M' x = M x)) := by
  have h0 := h
  obtain ⟨⟨rc, pl, fa, hO⟩, hT, hL, hK, hS⟩ := h
  have hm := (hL.1 j hj).1
  have hin := inI_yes (j := j) (k := 1) (by omega) (by omega)
  have hin2 := inD_no hy hm
  obtain ⟨-, -, -, -, fc, d1, d2⟩ := hL
  refine ctr_of [some (.ref W), some (.int (nI j)), some (.int y), none, none, none, none, none, none] (by decide) w_1048 rfl rfl (Nat.le_of_ble_eq_true rfl) (fun Γ => ?_)
  refine g_iload_n d_Mo_swap_0 rfl ?_
  refine g_iconst (v := nI 0) d_Mo_swap_1 (by decide) ?_
  refine g_iconst (v := nI 1) d_Mo_swap_2 (by decide) ?_
  refine g_callS s_Mo_112 sv_Mo_in (g_of_val (k_Mo_in _ _ _)) (by omega) rfl (by omega) (by omega) rfl (Nat.le_of_ble_eq_true rfl) d_Mo_swap_3 ?_
  rintro _ _ _ ⟨rfl, rfl, rfl⟩
  first | refine g_ifB_eq (tgt := 29) d_Mo_swap_6 (by decide) (fun hb_6 => ?_) (fun hb_6 => ?_) | refine g_ifN_eq (tgt := 29) d_Mo_swap_6 (by decide) (by omega) (fun hb_6 => ?_) (fun hb_6 => ?_)
  · rw [hin] at hb_6; cases hb_6
  refine g_iload_n d_Mo_swap_9 rfl ?_
  refine g_iconst (v := nI 0) d_Mo_swap_10 (by decide) ?_
  refine g_aload_n d_Mo_swap_11 rfl ?_
  refine g_get f_Mo_22 (by assumption) rfl d_Mo_swap_12 ?_
  refine g_iload_n d_Mo_swap_15 rfl ?_
  refine g_iald _ (by assumption) rfl (by omega) (by decide) d_Mo_swap_16 ?_
  refine g_eqi (d2 j hj) ?_
  refine g_iconst (v := nI 2) d_Mo_swap_17 (by decide) ?_
  refine g_isub d_Mo_swap_18 ?_
  refine g_callS s_Mo_112 sv_Mo_in (g_of_val (k_Mo_in _ _ _)) (by omega) rfl (by omega) (by omega) rfl (Nat.le_of_ble_eq_true rfl) d_Mo_swap_19 ?_
  rintro _ _ _ ⟨rfl, rfl, rfl⟩
  first | refine g_ifB_ne (tgt := 29) d_Mo_swap_22 (by decide) (fun hb_22 => ?_) (fun hb_22 => ?_) | refine g_ifN_ne (tgt := 29) d_Mo_swap_22 (by decide) (by omega) (fun hb_22 => ?_) (fun hb_22 => ?_)
  · rw [hin2] at hb_22; cases hb_22
  · refine g_iconst (v := nI 1) d_Mo_swap_25 (by decide) ?_
    refine g_goto (tgt := 30) d_Mo_swap_26 (by decide) ?_
    refine g_istore_n d_Mo_swap_30 (by decide) ?_
    refine g_aload_n d_Mo_swap_31 rfl ?_
    refine g_iload_n d_Mo_swap_32 rfl ?_
    refine g_iconst (v := nI 0) d_Mo_swap_33 (by decide) ?_
    refine g_iconst (v := nI 1) d_Mo_swap_34 (by decide) ?_
    refine g_callS s_Mo_112 sv_Mo_in (g_of_val (k_Mo_in _ _ _)) (by omega) rfl (by omega) (by omega) rfl (Nat.le_of_ble_eq_true rfl) d_Mo_swap_35 ?_
    rintro _ _ _ ⟨rfl, rfl, rfl⟩
    first | refine g_ifB_ne (tgt := 45) d_Mo_swap_38 (by decide) (fun hb_38 => ?_) (fun hb_38 => ?_) | refine g_ifN_ne (tgt := 45) d_Mo_swap_38 (by decide) (by omega) (fun hb_38 => ?_) (fun hb_38 => ?_)
    · refine g_iconst (v := nI 0) d_Mo_swap_45 (by decide) ?_
      refine g_iload_n d_Mo_swap_46 rfl ?_
      refine g_callV s_Mo_57 sv_Mo_refuse (by assumption) rfl (k_Mo_refuse hO false true) (by omega) rfl (by omega) (by omega) rfl (Nat.le_of_ble_eq_true rfl) d_Mo_swap_47 ?_
      rintro v' N' M1 ⟨rfl, rfl, e1, f1⟩
      first | refine g_ifB_eq (tgt := 54) d_Mo_swap_50 (by decide) (fun hb_50 => ?_) (fun hb_50 => ?_) | refine g_ifN_eq (tgt := 54) d_Mo_swap_50 (by decide) (by omega) (fun hb_50 => ?_) (fun hb_50 => ?_)
      · exact absurd hb_50 (by decide)
      · exact g_return rfl (by omega) (by omega) d_Mo_swap_53 ⟨_, rfl, rfl, rfl, h0.own e1 f1, f1⟩
    · rw [hin] at hb_38; cases hb_38
theorem xl_Mo_swap (h : OM E M W th tn ts mm rr gn gs) (x y : Int32) (hx : noN x 2) : Ctr l E y_Mo_swap 1 [.ref W, .int x, .int y] N M 0 0 (g_ret (fun v N' M' => v = none ∧ N' = N ∧ OM E M' W (nI 1) tn ts mm rr gn gs ∧ ∀ x, x ≠ W → M' x = M x)) := by
  have h0 := h
  obtain ⟨⟨rc, pl, fa, hO⟩, hT, hL, hK, hS⟩ := h
  have hin := inI_no (k := 1) hx (by omega)
  refine ctr_of [some (.ref W), some (.int x), some (.int y), none, none, none, none, none, none] (by decide) w_1048 rfl rfl (Nat.le_of_ble_eq_true rfl) (fun Γ => ?_)
  refine g_iload_n d_Mo_swap_0 rfl ?_
  refine g_iconst (v := nI 0) d_Mo_swap_1 (by decide) ?_
  refine g_iconst (v := nI 1) d_Mo_swap_2 (by decide) ?_
  refine g_callS s_Mo_112 sv_Mo_in (g_of_val (k_Mo_in _ _ _)) (by omega) rfl (by omega) (by omega) rfl (Nat.le_of_ble_eq_true rfl) d_Mo_swap_3 ?_
  rintro _ _ _ ⟨rfl, rfl, rfl⟩
  first | refine g_ifB_eq (tgt := 29) d_Mo_swap_6 (by decide) (fun hb_6 => ?_) (fun hb_6 => ?_) | refine g_ifN_eq (tgt := 29) d_Mo_swap_6 (by decide) (by omega) (fun hb_6 => ?_) (fun hb_6 => ?_)
  · refine g_iconst (v := nI 0) d_Mo_swap_29 (by decide) ?_
    refine g_istore_n d_Mo_swap_30 (by decide) ?_
    refine g_aload_n d_Mo_swap_31 rfl ?_
    refine g_iload_n d_Mo_swap_32 rfl ?_
    refine g_iconst (v := nI 0) d_Mo_swap_33 (by decide) ?_
    refine g_iconst (v := nI 1) d_Mo_swap_34 (by decide) ?_
    refine g_callS s_Mo_112 sv_Mo_in (g_of_val (k_Mo_in _ _ _)) (by omega) rfl (by omega) (by omega) rfl (Nat.le_of_ble_eq_true rfl) d_Mo_swap_35 ?_
    rintro _ _ _ ⟨rfl, rfl, rfl⟩
    first | refine g_ifB_ne (tgt := 45) d_Mo_swap_38 (by decide) (fun hb_38 => ?_) (fun hb_38 => ?_) | refine g_ifN_ne (tgt := 45) d_Mo_swap_38 (by decide) (by omega) (fun hb_38 => ?_) (fun hb_38 => ?_)
    · rw [hin] at hb_38; cases hb_38
    · refine g_iconst (v := nI 1) d_Mo_swap_41 (by decide) ?_
      refine g_goto (tgt := 46) d_Mo_swap_42 (by decide) ?_
      refine g_iload_n d_Mo_swap_46 rfl ?_
      refine g_callV s_Mo_57 sv_Mo_refuse (by assumption) rfl (k_Mo_refuse hO true false) (by omega) rfl (by omega) (by omega) rfl (Nat.le_of_ble_eq_true rfl) d_Mo_swap_47 ?_
      rintro v' N' M1 ⟨rfl, rfl, e1, f1⟩
      first | refine g_ifB_eq (tgt := 54) d_Mo_swap_50 (by decide) (fun hb_50 => ?_) (fun hb_50 => ?_) | refine g_ifN_eq (tgt := 54) d_Mo_swap_50 (by decide) (by omega) (fun hb_50 => ?_) (fun hb_50 => ?_)
      · exact absurd hb_50 (by decide)
      · exact g_return rfl (by omega) (by omega) d_Mo_swap_53 ⟨_, rfl, rfl, rfl, h0.own e1 f1, f1⟩
  · rw [hin] at hb_6; cases hb_6
end MSWAP

