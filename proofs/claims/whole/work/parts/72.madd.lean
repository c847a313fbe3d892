theorem va_same {α : Type} (f : Nat → α) (j : Nat) : va_up f j (f j) = f := by
  funext x
  by_cases e : x = j
  · subst e; rw [va_up_self]
  · rw [va_up_ne _ _ e]
section MADD
variable {l : Launch} {E : gE} {N : Nat} {M : gM} {W tn : Nat} {th sz lk rc pl fa : Int32} {cn : Nat → Nat} {cs : Nat → Nat → Nat}
theorem k_Mo_addCut (h : M W = some (.inr (10, mo W th sz lk rc pl fa))) (hC : o_cu E M W cn cs) (f v : Nat) (hf : f < 4) (hv : v ≤ 1024) (hcap : cn f < 40) : Ctr l E y_Mo_addCut 2 [.ref W, .int (nI f), .int (nI v)] N M 0 0 (g_ret (fun w N' M' => w = none ∧ N' = N ∧ o_cu E M' W (va_up cn f (cin1 (cn f) (cs f) v (mst f + 1))) (va_up cs f (cin2 (cn f) (cs f) v (mst f + 1))) ∧ ∀ x, x ≠ W + 7 → x ≠ W + 8 → M' x = M x)) := by
  have hC0 := hC
  obtain ⟨⟨fm, a1, a2⟩, fc, b1, b2⟩ := hC
  have hmst := mst_lt f
  refine ctr_of [some (.ref W), some (.int (nI f)), some (.int (nI v)), none, none] (by decide) w_1096 rfl rfl (Nat.le_of_ble_eq_true rfl) (fun Γ => ?_)
  refine g_iconst (v := nI 0) d_Mo_addCut_0 (by decide) ?_
  refine g_istore_n d_Mo_addCut_1 (by decide) ?_
  refine g_for (P := fun r => (∀ k, k < r → cs f k < v) → G _ _ _ _ _ _ _ _ _ _ _ _ 2 [some (.ref W), some (.int (nI f)), some (.int (nI v)), some (.int (nI r)), none] [] N M 0 0) (e := cn f) ?_ ?_ 0 (by omega) (fun k hk => by omega)
  · intro h1
    obtain ⟨r, hrr⟩ : ∃ r, r = cn f := ⟨_, rfl⟩
    have hr : r ≤ cn f := by omega
    have h1 : ∀ k, k < r → cs f k < v := fun k hk => h1 k (by omega)
    have h2 : r < cn f → ¬ cs f r < v := fun q => by omega
    rw [show nI (cn f) = nI r by rw [hrr]]
    refine g_iload_n d_Mo_addCut_2 rfl ?_
    refine g_aload_n d_Mo_addCut_3 rfl ?_
    refine g_get f_Mo_31 (by assumption) rfl d_Mo_addCut_4 ?_
    refine g_iload_n d_Mo_addCut_7 rfl ?_
    refine g_iald _ (by assumption) rfl (by omega) (by decide) d_Mo_addCut_8 ?_
    refine g_eqi (a2 f hf).1 ?_
    refine g_icmpN_ge (tgt := 28) d_Mo_addCut_9 (by decide) (by omega) (by omega) (fun hb_9 => ?_) (fun hb_9 => ?_)
    · skip
      have hrk := rk_at hr h1 h2
      have back : (r < cn f ∧ cs f r = v) ∨ mst f + 1 ≤ v → o_cu E M W (va_up cn f (cin1 (cn f) (cs f) v (mst f + 1))) (va_up cs f (cin2 (cn f) (cs f) v (mst f + 1))) := by
        intro hc
        have e1 : cin1 (cn f) (cs f) v (mst f + 1) = cn f := by unfold cin1; rw [hrk, if_pos hc]
        have e2 : cin2 (cn f) (cs f) v (mst f + 1) = cs f := by unfold cin2; rw [hrk, if_pos hc]
        rw [e1, e2, va_same, va_same]
        exact hC0
      refine g_iload_n d_Mo_addCut_28 rfl ?_
      refine g_iload_n d_Mo_addCut_29 rfl ?_
      refine g_callS s_Mo_92 sv_Mo_most (g_of_val (k_Mo_most f hf)) (by omega) rfl (by omega) (by omega) rfl (Nat.le_of_ble_eq_true rfl) d_Mo_addCut_30 ?_
      rintro _ _ _ ⟨rfl, rfl, rfl⟩
      refine g_icmpN_gt (tgt := 56) d_Mo_addCut_33 (by decide) (by omega) (by omega) (fun hb_33 => ?_) (fun hb_33 => ?_)
      · exact g_return rfl (by omega) (by omega) d_Mo_addCut_56 ⟨_, rfl, rfl, rfl, back (Or.inr (by omega)), fun _ _ _ => rfl⟩
      · refine g_iload_n d_Mo_addCut_36 rfl ?_
        refine g_aload_n d_Mo_addCut_37 rfl ?_
        refine g_get f_Mo_31 (by assumption) rfl d_Mo_addCut_38 ?_
        refine g_iload_n d_Mo_addCut_41 rfl ?_
        refine g_iald _ (by assumption) rfl (by omega) (by decide) d_Mo_addCut_42 ?_
        refine g_eqi (a2 f hf).1 ?_
        refine g_icmpN_ge (tgt := 57) d_Mo_addCut_43 (by decide) (by omega) (by omega) (fun hb_43 => ?_) (fun hb_43 => ?_)
        · have hnf : ¬ ((r < cn f ∧ cs f r = v) ∨ mst f + 1 ≤ v) := by omega
          have ecn : cin1 (cn f) (cs f) v (mst f + 1) = cn f + 1 := by unfold cin1; rw [hrk, if_neg hnf]
          have ecs : cin2 (cn f) (cs f) v (mst f + 1) = fun j => if j < r then cs f j else if j = r then v else cs f (j - 1) := by unfold cin2; rw [hrk, if_neg hnf]
          rw [ecn, ecs]
          refine g_aload_n d_Mo_addCut_57 rfl ?_
          refine g_get f_Mo_31 (by assumption) rfl d_Mo_addCut_58 ?_
          refine g_iload_n d_Mo_addCut_61 rfl ?_
          refine g_iald _ (by assumption) rfl (by omega) (by decide) d_Mo_addCut_62 ?_
          refine g_eqi (a2 f hf).1 ?_
          refine g_istore d_Mo_addCut_63 (by decide) ?_
          refine g_for (P := fun t => ∀ (M2 : gM) (f2 : Nat → Int32), M2 (W + 7) = some (g_ia E 160 f2) → (∀ x, (x < 40 * f ∨ 40 * f + 40 ≤ x) → f2 x = fc x) → (∀ k, k ≤ cn f - t → k < cn f → f2 (40 * f + k) = nI (cs f k)) → (∀ k, cn f - t < k → k ≤ cn f → f2 (40 * f + k) = nI (cs f (k - 1))) → (∀ x, x ≠ W + 7 → M2 x = M x) → G _ _ _ _ _ _ _ _ _ _ _ _ 65 [some (.ref W), some (.int (nI f)), some (.int (nI v)), some (.int (nI r)), some (.int (nI (cn f - t)))] [] N M2 0 0) (e := cn f - r) ?_ ?_ 0 (by omega) M fc b1 (fun _ _ => rfl) (fun k _ hk => (b2 f k hf hk).1) (fun k k1 k2 => by omega) (fun _ _ => rfl)
          · intro M2 f2 p1 p2 p3 p4 p5
            rw [show cn f - (cn f - r) = r by omega] at p3 p4 ⊢
            have g2 := (p5 W (by omega)).trans h
            refine g_iload d_Mo_addCut_65 rfl ?_
            refine g_iload_n d_Mo_addCut_67 rfl ?_
            refine g_icmpN_le (tgt := 103) d_Mo_addCut_68 (by decide) (by omega) (by omega) (fun hb_68 => ?_) (fun hb_68 => ?_)
            · refine g_aload_n d_Mo_addCut_103 rfl ?_
              refine g_get f_Mo_28 (by assumption) rfl d_Mo_addCut_104 ?_
              refine g_bipush (v := nI 40) d_Mo_addCut_107 (by decide) ?_
              refine g_iload_n d_Mo_addCut_109 rfl ?_
              refine g_imul d_Mo_addCut_110 ?_
              refine g_eqi (pk_mul _ _) ?_
              refine g_iload_n d_Mo_addCut_111 rfl ?_
              refine g_iadd d_Mo_addCut_112 ?_
              refine g_eqi (nI_add _ _) ?_
              refine g_iload_n d_Mo_addCut_113 rfl ?_
              refine g_iast _ (by assumption) rfl (by omega) (by decide) d_Mo_addCut_114 ?_
              refine g_nm (fun M3 e3 f3 => ?_)
              have g3 := (f3 W (by omega)).trans g2
              have m3 := (f3 (W + 8) (by omega)).trans ((p5 (W + 8) (by omega)).trans a1)
              refine g_aload_n d_Mo_addCut_115 rfl ?_
              refine g_get f_Mo_31 (by assumption) rfl d_Mo_addCut_116 ?_
              refine g_iload_n d_Mo_addCut_119 rfl ?_
              refine g_dup2 d_Mo_addCut_120 rfl rfl ?_
              refine g_iald _ (by assumption) rfl (by omega) (by decide) d_Mo_addCut_121 ?_
              refine g_eqi (a2 f hf).1 ?_
              refine g_iconst (v := nI 1) d_Mo_addCut_122 (by decide) ?_
              refine g_iadd d_Mo_addCut_123 ?_
              refine g_eqi (nI_add _ _) ?_
              refine g_iast _ (by assumption) rfl (by omega) (by decide) d_Mo_addCut_124 ?_
              refine g_nm (fun M4 e4 f4 => ?_)
              refine g_return rfl (by omega) (by omega) d_Mo_addCut_125 ⟨_, rfl, rfl, rfl, ⟨⟨_, e4, fun g hg => ?_⟩, _, (f4 _ (by omega)).trans e3, fun g k hg hk => ?_⟩, fun x x1 x2 => (f4 x x2).trans ((f3 x x1).trans (p5 x x1))⟩
              · by_cases e : g = f
                · subst e
                  rw [pk_us, va_up_self]
                  exact ⟨rfl, by omega⟩
                · rw [pk_un e, va_up_ne _ _ e]
                  exact a2 g hg
              · by_cases e : g = f
                · subst e
                  rw [va_up_self] at hk ⊢
                  show _ = nI (if k < r then cs g k else if k = r then v else cs g (k - 1)) ∧ (if k < r then cs g k else if k = r then v else cs g (k - 1)) < 1024
                  by_cases c1 : k < r
                  · rw [if_pos c1, pk_un (by omega)]
                    exact ⟨p3 k (by omega) (by omega), (b2 g k hg (by omega)).2⟩
                  · rw [if_neg c1]
                    by_cases c2 : k = r
                    · rw [if_pos c2, c2, pk_us]
                      exact ⟨rfl, by omega⟩
                    · rw [if_neg c2, pk_un (by omega)]
                      exact ⟨p4 k (by omega) (by omega), (b2 g (k - 1) hg (by omega)).2⟩
                · rw [va_up_ne _ _ e] at hk ⊢
                  have hg40 := (a2 g hg).2
                  rw [pk_un (by omega), p2 _ (by omega)]
                  exact b2 g k hg hk
            · omega
          · intro t ht ih M2 f2 p1 p2 p3 p4 p5
            obtain ⟨a, ha⟩ : ∃ a, cn f - t = a + 1 := ⟨cn f - t - 1, by omega⟩
            rw [show cn f - (t + 1) = a by omega] at ih
            rw [ha] at p3 p4 ⊢
            have g2 := (p5 W (by omega)).trans h
            refine g_iload d_Mo_addCut_65 rfl ?_
            refine g_iload_n d_Mo_addCut_67 rfl ?_
            refine g_icmpN_le (tgt := 103) d_Mo_addCut_68 (by decide) (by omega) (by omega) (fun hb_68 => ?_) (fun hb_68 => ?_)
            · omega
            refine g_aload_n d_Mo_addCut_71 rfl ?_
            refine g_get f_Mo_28 (by assumption) rfl d_Mo_addCut_72 ?_
            refine g_bipush (v := nI 40) d_Mo_addCut_75 (by decide) ?_
            refine g_iload_n d_Mo_addCut_77 rfl ?_
            refine g_imul d_Mo_addCut_78 ?_
            refine g_eqi (pk_mul _ _) ?_
            refine g_iload d_Mo_addCut_79 rfl ?_
            refine g_iadd d_Mo_addCut_81 ?_
            refine g_eqi (nI_add _ _) ?_
            refine g_aload_n d_Mo_addCut_82 rfl ?_
            refine g_get f_Mo_28 (by assumption) rfl d_Mo_addCut_83 ?_
            refine g_bipush (v := nI 40) d_Mo_addCut_86 (by decide) ?_
            refine g_iload_n d_Mo_addCut_88 rfl ?_
            refine g_imul d_Mo_addCut_89 ?_
            refine g_eqi (pk_mul _ _) ?_
            refine g_iload d_Mo_addCut_90 rfl ?_
            refine g_iadd d_Mo_addCut_92 ?_
            refine g_eqi (nI_add _ _) ?_
            refine g_iconst (v := nI 1) d_Mo_addCut_93 (by decide) ?_
            refine g_isub d_Mo_addCut_94 ?_
            refine g_eqi (z := nI (40 * f + a)) ((pk_sub (by omega)).trans (congrArg nI (by omega))) ?_
            refine g_iald _ (by assumption) rfl (by omega) (by decide) d_Mo_addCut_95 ?_
            refine g_eqi (p3 a (by omega) (by omega)) ?_
            refine g_iast _ (by assumption) rfl (by omega) (by decide) d_Mo_addCut_96 ?_
            refine g_nm (fun M3 e3 f3 => ?_)
            refine g_iincm d_Mo_addCut_97 rfl (by decide) ?_
            refine g_goto (tgt := 65) d_Mo_addCut_100 (by decide) ?_
            refine ih M3 _ e3 (fun x hx => ?_) (fun k k1 k2 => ?_) (fun k k1 k2 => ?_) (fun x hx => (f3 x hx).trans (p5 x hx))
            · rw [pk_un (by omega)]; exact p2 x hx
            · rw [pk_un (by omega)]; exact p3 k (by omega) k2
            · by_cases e : k = a + 1
              · subst e; rw [pk_us]; rfl
              · rw [pk_un (by omega)]; exact p4 k (by omega) k2
        · have hrv := (b2 f r hf (by omega)).2
          refine g_aload_n d_Mo_addCut_46 rfl ?_
          refine g_iload_n d_Mo_addCut_47 rfl ?_
          refine g_iload_n d_Mo_addCut_48 rfl ?_
          refine g_callV s_Mo_144 sv_Mo_cut (by assumption) rfl (g_of_val (k_Mo_cut h hC0 f r hf (by omega))) (by omega) rfl (by omega) (by omega) rfl (Nat.le_of_ble_eq_true rfl) d_Mo_addCut_49 ?_
          rintro _ _ _ ⟨rfl, rfl, rfl⟩
          refine g_iload_n d_Mo_addCut_52 rfl ?_
          refine g_icmpN_ne (tgt := 57) d_Mo_addCut_53 (by decide) (by omega) (by omega) (fun hb_53 => ?_) (fun hb_53 => ?_)
          · have hnf : ¬ ((r < cn f ∧ cs f r = v) ∨ mst f + 1 ≤ v) := by omega
            have ecn : cin1 (cn f) (cs f) v (mst f + 1) = cn f + 1 := by unfold cin1; rw [hrk, if_neg hnf]
            have ecs : cin2 (cn f) (cs f) v (mst f + 1) = fun j => if j < r then cs f j else if j = r then v else cs f (j - 1) := by unfold cin2; rw [hrk, if_neg hnf]
            rw [ecn, ecs]
            refine g_aload_n d_Mo_addCut_57 rfl ?_
            refine g_get f_Mo_31 (by assumption) rfl d_Mo_addCut_58 ?_
            refine g_iload_n d_Mo_addCut_61 rfl ?_
            refine g_iald _ (by assumption) rfl (by omega) (by decide) d_Mo_addCut_62 ?_
            refine g_eqi (a2 f hf).1 ?_
            refine g_istore d_Mo_addCut_63 (by decide) ?_
            refine g_for (P := fun t => ∀ (M2 : gM) (f2 : Nat → Int32), M2 (W + 7) = some (g_ia E 160 f2) → (∀ x, (x < 40 * f ∨ 40 * f + 40 ≤ x) → f2 x = fc x) → (∀ k, k ≤ cn f - t → k < cn f → f2 (40 * f + k) = nI (cs f k)) → (∀ k, cn f - t < k → k ≤ cn f → f2 (40 * f + k) = nI (cs f (k - 1))) → (∀ x, x ≠ W + 7 → M2 x = M x) → G _ _ _ _ _ _ _ _ _ _ _ _ 65 [some (.ref W), some (.int (nI f)), some (.int (nI v)), some (.int (nI r)), some (.int (nI (cn f - t)))] [] N M2 0 0) (e := cn f - r) ?_ ?_ 0 (by omega) M fc b1 (fun _ _ => rfl) (fun k _ hk => (b2 f k hf hk).1) (fun k k1 k2 => by omega) (fun _ _ => rfl)
            · intro M2 f2 p1 p2 p3 p4 p5
              rw [show cn f - (cn f - r) = r by omega] at p3 p4 ⊢
              have g2 := (p5 W (by omega)).trans h
              refine g_iload d_Mo_addCut_65 rfl ?_
              refine g_iload_n d_Mo_addCut_67 rfl ?_
              refine g_icmpN_le (tgt := 103) d_Mo_addCut_68 (by decide) (by omega) (by omega) (fun hb_68 => ?_) (fun hb_68 => ?_)
              · refine g_aload_n d_Mo_addCut_103 rfl ?_
                refine g_get f_Mo_28 (by assumption) rfl d_Mo_addCut_104 ?_
                refine g_bipush (v := nI 40) d_Mo_addCut_107 (by decide) ?_
                refine g_iload_n d_Mo_addCut_109 rfl ?_
                refine g_imul d_Mo_addCut_110 ?_
                refine g_eqi (pk_mul _ _) ?_
                refine g_iload_n d_Mo_addCut_111 rfl ?_
                refine g_iadd d_Mo_addCut_112 ?_
                refine g_eqi (nI_add _ _) ?_
                refine g_iload_n d_Mo_addCut_113 rfl ?_
                refine g_iast _ (by assumption) rfl (by omega) (by decide) d_Mo_addCut_114 ?_
                refine g_nm (fun M3 e3 f3 => ?_)
                have g3 := (f3 W (by omega)).trans g2
                have m3 := (f3 (W + 8) (by omega)).trans ((p5 (W + 8) (by omega)).trans a1)
                refine g_aload_n d_Mo_addCut_115 rfl ?_
                refine g_get f_Mo_31 (by assumption) rfl d_Mo_addCut_116 ?_
                refine g_iload_n d_Mo_addCut_119 rfl ?_
                refine g_dup2 d_Mo_addCut_120 rfl rfl ?_
                refine g_iald _ (by assumption) rfl (by omega) (by decide) d_Mo_addCut_121 ?_
                refine g_eqi (a2 f hf).1 ?_
                refine g_iconst (v := nI 1) d_Mo_addCut_122 (by decide) ?_
                refine g_iadd d_Mo_addCut_123 ?_
                refine g_eqi (nI_add _ _) ?_
                refine g_iast _ (by assumption) rfl (by omega) (by decide) d_Mo_addCut_124 ?_
                refine g_nm (fun M4 e4 f4 => ?_)
                refine g_return rfl (by omega) (by omega) d_Mo_addCut_125 ⟨_, rfl, rfl, rfl, ⟨⟨_, e4, fun g hg => ?_⟩, _, (f4 _ (by omega)).trans e3, fun g k hg hk => ?_⟩, fun x x1 x2 => (f4 x x2).trans ((f3 x x1).trans (p5 x x1))⟩
                · by_cases e : g = f
                  · subst e
                    rw [pk_us, va_up_self]
                    exact ⟨rfl, by omega⟩
                  · rw [pk_un e, va_up_ne _ _ e]
                    exact a2 g hg
                · by_cases e : g = f
                  · subst e
                    rw [va_up_self] at hk ⊢
                    show _ = nI (if k < r then cs g k else if k = r then v else cs g (k - 1)) ∧ (if k < r then cs g k else if k = r then v else cs g (k - 1)) < 1024
                    by_cases c1 : k < r
                    · rw [if_pos c1, pk_un (by omega)]
                      exact ⟨p3 k (by omega) (by omega), (b2 g k hg (by omega)).2⟩
                    · rw [if_neg c1]
                      by_cases c2 : k = r
                      · rw [if_pos c2, c2, pk_us]
                        exact ⟨rfl, by omega⟩
                      · rw [if_neg c2, pk_un (by omega)]
                        exact ⟨p4 k (by omega) (by omega), (b2 g (k - 1) hg (by omega)).2⟩
                  · rw [va_up_ne _ _ e] at hk ⊢
                    have hg40 := (a2 g hg).2
                    rw [pk_un (by omega), p2 _ (by omega)]
                    exact b2 g k hg hk
              · omega
            · intro t ht ih M2 f2 p1 p2 p3 p4 p5
              obtain ⟨a, ha⟩ : ∃ a, cn f - t = a + 1 := ⟨cn f - t - 1, by omega⟩
              rw [show cn f - (t + 1) = a by omega] at ih
              rw [ha] at p3 p4 ⊢
              have g2 := (p5 W (by omega)).trans h
              refine g_iload d_Mo_addCut_65 rfl ?_
              refine g_iload_n d_Mo_addCut_67 rfl ?_
              refine g_icmpN_le (tgt := 103) d_Mo_addCut_68 (by decide) (by omega) (by omega) (fun hb_68 => ?_) (fun hb_68 => ?_)
              · omega
              refine g_aload_n d_Mo_addCut_71 rfl ?_
              refine g_get f_Mo_28 (by assumption) rfl d_Mo_addCut_72 ?_
              refine g_bipush (v := nI 40) d_Mo_addCut_75 (by decide) ?_
              refine g_iload_n d_Mo_addCut_77 rfl ?_
              refine g_imul d_Mo_addCut_78 ?_
              refine g_eqi (pk_mul _ _) ?_
              refine g_iload d_Mo_addCut_79 rfl ?_
              refine g_iadd d_Mo_addCut_81 ?_
              refine g_eqi (nI_add _ _) ?_
              refine g_aload_n d_Mo_addCut_82 rfl ?_
              refine g_get f_Mo_28 (by assumption) rfl d_Mo_addCut_83 ?_
              refine g_bipush (v := nI 40) d_Mo_addCut_86 (by decide) ?_
              refine g_iload_n d_Mo_addCut_88 rfl ?_
              refine g_imul d_Mo_addCut_89 ?_
              refine g_eqi (pk_mul _ _) ?_
              refine g_iload d_Mo_addCut_90 rfl ?_
              refine g_iadd d_Mo_addCut_92 ?_
              refine g_eqi (nI_add _ _) ?_
              refine g_iconst (v := nI 1) d_Mo_addCut_93 (by decide) ?_
              refine g_isub d_Mo_addCut_94 ?_
              refine g_eqi (z := nI (40 * f + a)) ((pk_sub (by omega)).trans (congrArg nI (by omega))) ?_
              refine g_iald _ (by assumption) rfl (by omega) (by decide) d_Mo_addCut_95 ?_
              refine g_eqi (p3 a (by omega) (by omega)) ?_
              refine g_iast _ (by assumption) rfl (by omega) (by decide) d_Mo_addCut_96 ?_
              refine g_nm (fun M3 e3 f3 => ?_)
              refine g_iincm d_Mo_addCut_97 rfl (by decide) ?_
              refine g_goto (tgt := 65) d_Mo_addCut_100 (by decide) ?_
              refine ih M3 _ e3 (fun x hx => ?_) (fun k k1 k2 => ?_) (fun k k1 k2 => ?_) (fun x hx => (f3 x hx).trans (p5 x hx))
              · rw [pk_un (by omega)]; exact p2 x hx
              · rw [pk_un (by omega)]; exact p3 k (by omega) k2
              · by_cases e : k = a + 1
                · subst e; rw [pk_us]; rfl
                · rw [pk_un (by omega)]; exact p4 k (by omega) k2
          · exact g_return rfl (by omega) (by omega) d_Mo_addCut_56 ⟨_, rfl, rfl, rfl, back (Or.inl ⟨by omega, hb_53⟩), fun _ _ _ => rfl⟩
    · omega
  · intro r hr ih h1
    have hrv := (b2 f r hf hr).2
    refine g_iload_n d_Mo_addCut_2 rfl ?_
    refine g_aload_n d_Mo_addCut_3 rfl ?_
    refine g_get f_Mo_31 (by assumption) rfl d_Mo_addCut_4 ?_
    refine g_iload_n d_Mo_addCut_7 rfl ?_
    refine g_iald _ (by assumption) rfl (by omega) (by decide) d_Mo_addCut_8 ?_
    refine g_eqi (a2 f hf).1 ?_
    refine g_icmpN_ge (tgt := 28) d_Mo_addCut_9 (by decide) (by omega) (by omega) (fun hb_9 => ?_) (fun hb_9 => ?_)
    · omega
    refine g_aload_n d_Mo_addCut_12 rfl ?_
    refine g_iload_n d_Mo_addCut_13 rfl ?_
    refine g_iload_n d_Mo_addCut_14 rfl ?_
    refine g_callV s_Mo_144 sv_Mo_cut (by assumption) rfl (g_of_val (k_Mo_cut h hC0 f r hf hr)) (by omega) rfl (by omega) (by omega) rfl (Nat.le_of_ble_eq_true rfl) d_Mo_addCut_15 ?_
    rintro _ _ _ ⟨rfl, rfl, rfl⟩
    refine g_iload_n d_Mo_addCut_18 rfl ?_
    refine g_icmpN_ge (tgt := 28) d_Mo_addCut_19 (by decide) (by omega) (by omega) (fun hb_19 => ?_) (fun hb_19 => ?_)
    · have h2 : r < cn f → ¬ cs f r < v := fun _ => by omega
      have hr : r ≤ cn f := by omega
      have hrk := rk_at hr h1 h2
      have back : (r < cn f ∧ cs f r = v) ∨ mst f + 1 ≤ v → o_cu E M W (va_up cn f (cin1 (cn f) (cs f) v (mst f + 1))) (va_up cs f (cin2 (cn f) (cs f) v (mst f + 1))) := by
        intro hc
        have e1 : cin1 (cn f) (cs f) v (mst f + 1) = cn f := by unfold cin1; rw [hrk, if_pos hc]
        have e2 : cin2 (cn f) (cs f) v (mst f + 1) = cs f := by unfold cin2; rw [hrk, if_pos hc]
        rw [e1, e2, va_same, va_same]
        exact hC0
      refine g_iload_n d_Mo_addCut_28 rfl ?_
      refine g_iload_n d_Mo_addCut_29 rfl ?_
      refine g_callS s_Mo_92 sv_Mo_most (g_of_val (k_Mo_most f hf)) (by omega) rfl (by omega) (by omega) rfl (Nat.le_of_ble_eq_true rfl) d_Mo_addCut_30 ?_
      rintro _ _ _ ⟨rfl, rfl, rfl⟩
      refine g_icmpN_gt (tgt := 56) d_Mo_addCut_33 (by decide) (by omega) (by omega) (fun hb_33 => ?_) (fun hb_33 => ?_)
      · exact g_return rfl (by omega) (by omega) d_Mo_addCut_56 ⟨_, rfl, rfl, rfl, back (Or.inr (by omega)), fun _ _ _ => rfl⟩
      · refine g_iload_n d_Mo_addCut_36 rfl ?_
        refine g_aload_n d_Mo_addCut_37 rfl ?_
        refine g_get f_Mo_31 (by assumption) rfl d_Mo_addCut_38 ?_
        refine g_iload_n d_Mo_addCut_41 rfl ?_
        refine g_iald _ (by assumption) rfl (by omega) (by decide) d_Mo_addCut_42 ?_
        refine g_eqi (a2 f hf).1 ?_
        refine g_icmpN_ge (tgt := 57) d_Mo_addCut_43 (by decide) (by omega) (by omega) (fun hb_43 => ?_) (fun hb_43 => ?_)
        · have hnf : ¬ ((r < cn f ∧ cs f r = v) ∨ mst f + 1 ≤ v) := by omega
          have ecn : cin1 (cn f) (cs f) v (mst f + 1) = cn f + 1 := by unfold cin1; rw [hrk, if_neg hnf]
          have ecs : cin2 (cn f) (cs f) v (mst f + 1) = fun j => if j < r then cs f j else if j = r then v else cs f (j - 1) := by unfold cin2; rw [hrk, if_neg hnf]
          rw [ecn, ecs]
          refine g_aload_n d_Mo_addCut_57 rfl ?_
          refine g_get f_Mo_31 (by assumption) rfl d_Mo_addCut_58 ?_
          refine g_iload_n d_Mo_addCut_61 rfl ?_
          refine g_iald _ (by assumption) rfl (by omega) (by decide) d_Mo_addCut_62 ?_
          refine g_eqi (a2 f hf).1 ?_
          refine g_istore d_Mo_addCut_63 (by decide) ?_
          refine g_for (P := fun t => ∀ (M2 : gM) (f2 : Nat → Int32), M2 (W + 7) = some (g_ia E 160 f2) → (∀ x, (x < 40 * f ∨ 40 * f + 40 ≤ x) → f2 x = fc x) → (∀ k, k ≤ cn f - t → k < cn f → f2 (40 * f + k) = nI (cs f k)) → (∀ k, cn f - t < k → k ≤ cn f → f2 (40 * f + k) = nI (cs f (k - 1))) → (∀ x, x ≠ W + 7 → M2 x = M x) → G _ _ _ _ _ _ _ _ _ _ _ _ 65 [some (.ref W), some (.int (nI f)), some (.int (nI v)), some (.int (nI r)), some (.int (nI (cn f - t)))] [] N M2 0 0) (e := cn f - r) ?_ ?_ 0 (by omega) M fc b1 (fun _ _ => rfl) (fun k _ hk => (b2 f k hf hk).1) (fun k k1 k2 => by omega) (fun _ _ => rfl)
          · intro M2 f2 p1 p2 p3 p4 p5
            rw [show cn f - (cn f - r) = r by omega] at p3 p4 ⊢
            have g2 := (p5 W (by omega)).trans h
            refine g_iload d_Mo_addCut_65 rfl ?_
            refine g_iload_n d_Mo_addCut_67 rfl ?_
            refine g_icmpN_le (tgt := 103) d_Mo_addCut_68 (by decide) (by omega) (by omega) (fun hb_68 => ?_) (fun hb_68 => ?_)
            · refine g_aload_n d_Mo_addCut_103 rfl ?_
              refine g_get f_Mo_28 (by assumption) rfl d_Mo_addCut_104 ?_
              refine g_bipush (v := nI 40) d_Mo_addCut_107 (by decide) ?_
              refine g_iload_n d_Mo_addCut_109 rfl ?_
              refine g_imul d_Mo_addCut_110 ?_
              refine g_eqi (pk_mul _ _) ?_
              refine g_iload_n d_Mo_addCut_111 rfl ?_
              refine g_iadd d_Mo_addCut_112 ?_
              refine g_eqi (nI_add _ _) ?_
              refine g_iload_n d_Mo_addCut_113 rfl ?_
              refine g_iast _ (by assumption) rfl (by omega) (by decide) d_Mo_addCut_114 ?_
              refine g_nm (fun M3 e3 f3 => ?_)
              have g3 := (f3 W (by omega)).trans g2
              have m3 := (f3 (W + 8) (by omega)).trans ((p5 (W + 8) (by omega)).trans a1)
              refine g_aload_n d_Mo_addCut_115 rfl ?_
              refine g_get f_Mo_31 (by assumption) rfl d_Mo_addCut_116 ?_
              refine g_iload_n d_Mo_addCut_119 rfl ?_
              refine g_dup2 d_Mo_addCut_120 rfl rfl ?_
              refine g_iald _ (by assumption) rfl (by omega) (by decide) d_Mo_addCut_121 ?_
              refine g_eqi (a2 f hf).1 ?_
              refine g_iconst (v := nI 1) d_Mo_addCut_122 (by decide) ?_
              refine g_iadd d_Mo_addCut_123 ?_
              refine g_eqi (nI_add _ _) ?_
              refine g_iast _ (by assumption) rfl (by omega) (by decide) d_Mo_addCut_124 ?_
              refine g_nm (fun M4 e4 f4 => ?_)
              refine g_return rfl (by omega) (by omega) d_Mo_addCut_125 ⟨_, rfl, rfl, rfl, ⟨⟨_, e4, fun g hg => ?_⟩, _, (f4 _ (by omega)).trans e3, fun g k hg hk => ?_⟩, fun x x1 x2 => (f4 x x2).trans ((f3 x x1).trans (p5 x x1))⟩
              · by_cases e : g = f
                · subst e
                  rw [pk_us, va_up_self]
                  exact ⟨rfl, by omega⟩
                · rw [pk_un e, va_up_ne _ _ e]
                  exact a2 g hg
              · by_cases e : g = f
                · subst e
                  rw [va_up_self] at hk ⊢
                  show _ = nI (if k < r then cs g k else if k = r then v else cs g (k - 1)) ∧ (if k < r then cs g k else if k = r then v else cs g (k - 1)) < 1024
                  by_cases c1 : k < r
                  · rw [if_pos c1, pk_un (by omega)]
                    exact ⟨p3 k (by omega) (by omega), (b2 g k hg (by omega)).2⟩
                  · rw [if_neg c1]
                    by_cases c2 : k = r
                    · rw [if_pos c2, c2, pk_us]
                      exact ⟨rfl, by omega⟩
                    · rw [if_neg c2, pk_un (by omega)]
                      exact ⟨p4 k (by omega) (by omega), (b2 g (k - 1) hg (by omega)).2⟩
                · rw [va_up_ne _ _ e] at hk ⊢
                  have hg40 := (a2 g hg).2
                  rw [pk_un (by omega), p2 _ (by omega)]
                  exact b2 g k hg hk
            · omega
          · intro t ht ih M2 f2 p1 p2 p3 p4 p5
            obtain ⟨a, ha⟩ : ∃ a, cn f - t = a + 1 := ⟨cn f - t - 1, by omega⟩
            rw [show cn f - (t + 1) = a by omega] at ih
            rw [ha] at p3 p4 ⊢
            have g2 := (p5 W (by omega)).trans h
            refine g_iload d_Mo_addCut_65 rfl ?_
            refine g_iload_n d_Mo_addCut_67 rfl ?_
            refine g_icmpN_le (tgt := 103) d_Mo_addCut_68 (by decide) (by omega) (by omega) (fun hb_68 => ?_) (fun hb_68 => ?_)
            · omega
            refine g_aload_n d_Mo_addCut_71 rfl ?_
            refine g_get f_Mo_28 (by assumption) rfl d_Mo_addCut_72 ?_
            refine g_bipush (v := nI 40) d_Mo_addCut_75 (by decide) ?_
            refine g_iload_n d_Mo_addCut_77 rfl ?_
            refine g_imul d_Mo_addCut_78 ?_
            refine g_eqi (pk_mul _ _) ?_
            refine g_iload d_Mo_addCut_79 rfl ?_
            refine g_iadd d_Mo_addCut_81 ?_
            refine g_eqi (nI_add _ _) ?_
            refine g_aload_n d_Mo_addCut_82 rfl ?_
            refine g_get f_Mo_28 (by assumption) rfl d_Mo_addCut_83 ?_
            refine g_bipush (v := nI 40) d_Mo_addCut_86 (by decide) ?_
            refine g_iload_n d_Mo_addCut_88 rfl ?_
            refine g_imul d_Mo_addCut_89 ?_
            refine g_eqi (pk_mul _ _) ?_
            refine g_iload d_Mo_addCut_90 rfl ?_
            refine g_iadd d_Mo_addCut_92 ?_
            refine g_eqi (nI_add _ _) ?_
            refine g_iconst (v := nI 1) d_Mo_addCut_93 (by decide) ?_
            refine g_isub d_Mo_addCut_94 ?_
            refine g_eqi (z := nI (40 * f + a)) ((pk_sub (by omega)).trans (congrArg nI (by omega))) ?_
            refine g_iald _ (by assumption) rfl (by omega) (by decide) d_Mo_addCut_95 ?_
            refine g_eqi (p3 a (by omega) (by omega)) ?_
            refine g_iast _ (by assumption) rfl (by omega) (by decide) d_Mo_addCut_96 ?_
            refine g_nm (fun M3 e3 f3 => ?_)
            refine g_iincm d_Mo_addCut_97 rfl (by decide) ?_
            refine g_goto (tgt := 65) d_Mo_addCut_100 (by decide) ?_
            refine ih M3 _ e3 (fun x hx => ?_) (fun k k1 k2 => ?_) (fun k k1 k2 => ?_) (fun x hx => (f3 x hx).trans (p5 x hx))
            · rw [pk_un (by omega)]; exact p2 x hx
            · rw [pk_un (by omega)]; exact p3 k (by omega) k2
            · by_cases e : k = a + 1
              · subst e; rw [pk_us]; rfl
              · rw [pk_un (by omega)]; exact p4 k (by omega) k2
        · have hrv := (b2 f r hf (by omega)).2
          refine g_aload_n d_Mo_addCut_46 rfl ?_
          refine g_iload_n d_Mo_addCut_47 rfl ?_
          refine g_iload_n d_Mo_addCut_48 rfl ?_
          refine g_callV s_Mo_144 sv_Mo_cut (by assumption) rfl (g_of_val (k_Mo_cut h hC0 f r hf (by omega))) (by omega) rfl (by omega) (by omega) rfl (Nat.le_of_ble_eq_true rfl) d_Mo_addCut_49 ?_
          rintro _ _ _ ⟨rfl, rfl, rfl⟩
          refine g_iload_n d_Mo_addCut_52 rfl ?_
          refine g_icmpN_ne (tgt := 57) d_Mo_addCut_53 (by decide) (by omega) (by omega) (fun hb_53 => ?_) (fun hb_53 => ?_)
          · have hnf : ¬ ((r < cn f ∧ cs f r = v) ∨ mst f + 1 ≤ v) := by omega
            have ecn : cin1 (cn f) (cs f) v (mst f + 1) = cn f + 1 := by unfold cin1; rw [hrk, if_neg hnf]
            have ecs : cin2 (cn f) (cs f) v (mst f + 1) = fun j => if j < r then cs f j else if j = r then v else cs f (j - 1) := by unfold cin2; rw [hrk, if_neg hnf]
            rw [ecn, ecs]
            refine g_aload_n d_Mo_addCut_57 rfl ?_
            refine g_get f_Mo_31 (by assumption) rfl d_Mo_addCut_58 ?_
            refine g_iload_n d_Mo_addCut_61 rfl ?_
            refine g_iald _ (by assumption) rfl (by omega) (by decide) d_Mo_addCut_62 ?_
            refine g_eqi (a2 f hf).1 ?_
            refine g_istore d_Mo_addCut_63 (by decide) ?_
            refine g_for (P := fun t => ∀ (M2 : gM) (f2 : Nat → Int32), M2 (W + 7) = some (g_ia E 160 f2) → (∀ x, (x < 40 * f ∨ 40 * f + 40 ≤ x) → f2 x = fc x) → (∀ k, k ≤ cn f - t → k < cn f → f2 (40 * f + k) = nI (cs f k)) → (∀ k, cn f - t < k → k ≤ cn f → f2 (40 * f + k) = nI (cs f (k - 1))) → (∀ x, x ≠ W + 7 → M2 x = M x) → G _ _ _ _ _ _ _ _ _ _ _ _ 65 [some (.ref W), some (.int (nI f)), some (.int (nI v)), some (.int (nI r)), some (.int (nI (cn f - t)))] [] N M2 0 0) (e := cn f - r) ?_ ?_ 0 (by omega) M fc b1 (fun _ _ => rfl) (fun k _ hk => (b2 f k hf hk).1) (fun k k1 k2 => by omega) (fun _ _ => rfl)
            · intro M2 f2 p1 p2 p3 p4 p5
              rw [show cn f - (cn f - r) = r by omega] at p3 p4 ⊢
              have g2 := (p5 W (by omega)).trans h
              refine g_iload d_Mo_addCut_65 rfl ?_
              refine g_iload_n d_Mo_addCut_67 rfl ?_
              refine g_icmpN_le (tgt := 103) d_Mo_addCut_68 (by decide) (by omega) (by omega) (fun hb_68 => ?_) (fun hb_68 => ?_)
              · refine g_aload_n d_Mo_addCut_103 rfl ?_
                refine g_get f_Mo_28 (by assumption) rfl d_Mo_addCut_104 ?_
                refine g_bipush (v := nI 40) d_Mo_addCut_107 (by decide) ?_
                refine g_iload_n d_Mo_addCut_109 rfl ?_
                refine g_imul d_Mo_addCut_110 ?_
                refine g_eqi (pk_mul _ _) ?_
                refine g_iload_n d_Mo_addCut_111 rfl ?_
                refine g_iadd d_Mo_addCut_112 ?_
                refine g_eqi (nI_add _ _) ?_
                refine g_iload_n d_Mo_addCut_113 rfl ?_
                refine g_iast _ (by assumption) rfl (by omega) (by decide) d_Mo_addCut_114 ?_
                refine g_nm (fun M3 e3 f3 => ?_)
                have g3 := (f3 W (by omega)).trans g2
                have m3 := (f3 (W + 8) (by omega)).trans ((p5 (W + 8) (by omega)).trans a1)
                refine g_aload_n d_Mo_addCut_115 rfl ?_
                refine g_get f_Mo_31 (by assumption) rfl d_Mo_addCut_116 ?_
                refine g_iload_n d_Mo_addCut_119 rfl ?_
                refine g_dup2 d_Mo_addCut_120 rfl rfl ?_
                refine g_iald _ (by assumption) rfl (by omega) (by decide) d_Mo_addCut_121 ?_
                refine g_eqi (a2 f hf).1 ?_
                refine g_iconst (v := nI 1) d_Mo_addCut_122 (by decide) ?_
                refine g_iadd d_Mo_addCut_123 ?_
                refine g_eqi (nI_add _ _) ?_
                refine g_iast _ (by assumption) rfl (by omega) (by decide) d_Mo_addCut_124 ?_
                refine g_nm (fun M4 e4 f4 => ?_)
                refine g_return rfl (by omega) (by omega) d_Mo_addCut_125 ⟨_, rfl, rfl, rfl, ⟨⟨_, e4, fun g hg => ?_⟩, _, (f4 _ (by omega)).trans e3, fun g k hg hk => ?_⟩, fun x x1 x2 => (f4 x x2).trans ((f3 x x1).trans (p5 x x1))⟩
                · by_cases e : g = f
                  · subst e
                    rw [pk_us, va_up_self]
                    exact ⟨rfl, by omega⟩
                  · rw [pk_un e, va_up_ne _ _ e]
                    exact a2 g hg
                · by_cases e : g = f
                  · subst e
                    rw [va_up_self] at hk ⊢
                    show _ = nI (if k < r then cs g k else if k = r then v else cs g (k - 1)) ∧ (if k < r then cs g k else if k = r then v else cs g (k - 1)) < 1024
                    by_cases c1 : k < r
                    · rw [if_pos c1, pk_un (by omega)]
                      exact ⟨p3 k (by omega) (by omega), (b2 g k hg (by omega)).2⟩
                    · rw [if_neg c1]
                      by_cases c2 : k = r
                      · rw [if_pos c2, c2, pk_us]
                        exact ⟨rfl, by omega⟩
                      · rw [if_neg c2, pk_un (by omega)]
                        exact ⟨p4 k (by omega) (by omega), (b2 g (k - 1) hg (by omega)).2⟩
                  · rw [va_up_ne _ _ e] at hk ⊢
                    have hg40 := (a2 g hg).2
                    rw [pk_un (by omega), p2 _ (by omega)]
                    exact b2 g k hg hk
              · omega
            · intro t ht ih M2 f2 p1 p2 p3 p4 p5
              obtain ⟨a, ha⟩ : ∃ a, cn f - t = a + 1 := ⟨cn f - t - 1, by omega⟩
              rw [show cn f - (t + 1) = a by omega] at ih
              rw [ha] at p3 p4 ⊢
              have g2 := (p5 W (by omega)).trans h
              refine g_iload d_Mo_addCut_65 rfl ?_
              refine g_iload_n d_Mo_addCut_67 rfl ?_
              refine g_icmpN_le (tgt := 103) d_Mo_addCut_68 (by decide) (by omega) (by omega) (fun hb_68 => ?_) (fun hb_68 => ?_)
              · omega
              refine g_aload_n d_Mo_addCut_71 rfl ?_
              refine g_get f_Mo_28 (by assumption) rfl d_Mo_addCut_72 ?_
              refine g_bipush (v := nI 40) d_Mo_addCut_75 (by decide) ?_
              refine g_iload_n d_Mo_addCut_77 rfl ?_
              refine g_imul d_Mo_addCut_78 ?_
              refine g_eqi (pk_mul _ _) ?_
              refine g_iload d_Mo_addCut_79 rfl ?_
              refine g_iadd d_Mo_addCut_81 ?_
              refine g_eqi (nI_add _ _) ?_
              refine g_aload_n d_Mo_addCut_82 rfl ?_
              refine g_get f_Mo_28 (by assumption) rfl d_Mo_addCut_83 ?_
              refine g_bipush (v := nI 40) d_Mo_addCut_86 (by decide) ?_
              refine g_iload_n d_Mo_addCut_88 rfl ?_
              refine g_imul d_Mo_addCut_89 ?_
              refine g_eqi (pk_mul _ _) ?_
              refine g_iload d_Mo_addCut_90 rfl ?_
              refine g_iadd d_Mo_addCut_92 ?_
              refine g_eqi (nI_add _ _) ?_
              refine g_iconst (v := nI 1) d_Mo_addCut_93 (by decide) ?_
              refine g_isub d_Mo_addCut_94 ?_
              refine g_eqi (z := nI (40 * f + a)) ((pk_sub (by omega)).trans (congrArg nI (by omega))) ?_
              refine g_iald _ (by assumption) rfl (by omega) (by decide) d_Mo_addCut_95 ?_
              refine g_eqi (p3 a (by omega) (by omega)) ?_
              refine g_iast _ (by assumption) rfl (by omega) (by decide) d_Mo_addCut_96 ?_
              refine g_nm (fun M3 e3 f3 => ?_)
              refine g_iincm d_Mo_addCut_97 rfl (by decide) ?_
              refine g_goto (tgt := 65) d_Mo_addCut_100 (by decide) ?_
              refine ih M3 _ e3 (fun x hx => ?_) (fun k k1 k2 => ?_) (fun k k1 k2 => ?_) (fun x hx => (f3 x hx).trans (p5 x hx))
              · rw [pk_un (by omega)]; exact p2 x hx
              · rw [pk_un (by omega)]; exact p3 k (by omega) k2
              · by_cases e : k = a + 1
                · subst e; rw [pk_us]; rfl
                · rw [pk_un (by omega)]; exact p4 k (by omega) k2
          · exact g_return rfl (by omega) (by omega) d_Mo_addCut_56 ⟨_, rfl, rfl, rfl, back (Or.inl ⟨by omega, hb_53⟩), fun _ _ _ => rfl⟩
    · refine g_iinc1 d_Mo_addCut_22 rfl (by decide) ?_
      refine g_goto (tgt := 2) d_Mo_addCut_25 (by decide) ?_
      refine ih (fun k hk => ?_)
      by_cases e : k = r
      · rw [e]; exact hb_19
      · exact h1 k (by omega)
end MADD

