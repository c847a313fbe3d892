section MPASS
variable {l : Launch} {E : gE} {N : Nat} {M : gM} {W tn : Nat} {th : Int32} {ts : Nat → Nat} {mm : Nat → Nat} {rr : Nat → Nat → Rl} {gn : Nat} {gs : Nat → Nat}
theorem k_Mo_pass (h : OM E M W th tn ts mm rr gn gs) (j a b c d : Nat) (hj : j < 2) (ha : a ≤ 255) (hb : b ≤ 255) (hc : c ≤ 1023) (hd : d ≤ 3) : Ctr l E y_Mo_pass 4 [.ref W, .int (nI j), .int (nI a), .int (nI b), .int (nI c), .int (nI d)] N M 0 0 (g_ret (fun w N' M' => N' = N ∧ (∀ x, (x < W ∨ W + 12 < x) → M' x = M x) ∧
    ((fi (isc gs (pkt a b c d)) gn < gn ∧ w = some (.int (nI 3)) ∧ OM E M' W (nI 0) tn ts mm rr gn (va_up (fun i => if i < fi (isc gs (pkt a b c d)) gn then gs i else gs (i + 1)) (gn - 1) (gs (fi (isc gs (pkt a b c d)) gn)))) ∨
    (¬ fi (isc gs (pkt a b c d)) gn < gn ∧ w = some (.int (nI (jdg (rr j) (mm j) (pkt a b c d)))) ∧ ((jdg (rr j) (mm j) (pkt a b c d) = 0 ∧ OM E M' W (nI 0) tn ts mm rr gn gs) ∨ (jdg (rr j) (mm j) (pkt a b c d) ≠ 0 ∧ OM E M' W (nI 0) tn ts mm rr (opN gn) (opC gn gs (pkt a b c d)))))))) := by
  obtain ⟨⟨rc, pl, fa, hO⟩, hT, hL, hK, hS⟩ := h
  have h : OM E M W th tn ts mm rr gn gs := ⟨⟨rc, pl, fa, hO⟩, hT, hL, hK, hS⟩
  have hin := inI_yes (j := j) (k := 1) (by omega) (by omega)
  have hnpk := fun (N : Nat) => k_Mo_noPacket (l := l) (E := E) (N := N) (nI a) (nI b) (nI c) (nI d) hO
  rw [npI_yes ha hb hc hd] at hnpk
  have hgn := hK.1
  have hans : ans (pkt a b c d) = pkt b a c d := by
    unfold ans
    rw [pv_0 ha hb hc hd, pv_1 ha hb hc hd, pv_2 ha hb hc hd, pv_3 ha hb hc hd]
  have hjl : jdg (rr j) (mm j) (pkt a b c d) < 3 := by
    unfold jdg
    split
    · exact ((hL.1 j hj).2 _ (by assumption)).1
    · omega
  refine ctr_of [some (.ref W), some (.int (nI j)), some (.int (nI a)), some (.int (nI b)), some (.int (nI c)), some (.int (nI d)), none, none, none] (by decide) w_1162 rfl rfl (Nat.le_of_ble_eq_true rfl) (fun Γ => ?_)
  refine g_aload_n d_Mo_pass_0 rfl ?_
  refine g_iload_n d_Mo_pass_1 rfl ?_
  refine g_iconst (v := nI 0) d_Mo_pass_2 (by decide) ?_
  refine g_iconst (v := nI 1) d_Mo_pass_3 (by decide) ?_
  refine g_callS s_Mo_112 sv_Mo_in (g_of_val (k_Mo_in _ _ _)) (by omega) rfl (by omega) (by omega) rfl (Nat.le_of_ble_eq_true rfl) d_Mo_pass_4 ?_
  rintro _ _ _ ⟨rfl, rfl, rfl⟩
  first | refine g_ifB_ne (tgt := 14) d_Mo_pass_7 (by decide) (fun hb_7 => ?_) (fun hb_7 => ?_) | refine g_ifN_ne (tgt := 14) d_Mo_pass_7 (by decide) (by omega) (fun hb_7 => ?_) (fun hb_7 => ?_)
  · refine g_iconst (v := nI 0) d_Mo_pass_14 (by decide) ?_
    refine g_aload_n d_Mo_pass_15 rfl ?_
    refine g_iload_n d_Mo_pass_16 rfl ?_
    refine g_iload_n d_Mo_pass_17 rfl ?_
    refine g_iload d_Mo_pass_18 rfl ?_
    refine g_iload d_Mo_pass_20 rfl ?_
    refine g_callV s_Mo_137 sv_Mo_noPacket (by assumption) rfl (g_of_val (hnpk _)) (by omega) rfl (by omega) (by omega) rfl (Nat.le_of_ble_eq_true rfl) d_Mo_pass_22 ?_
    rintro _ _ _ ⟨rfl, rfl, rfl⟩
    refine g_callV s_Mo_57 sv_Mo_refuse (by assumption) rfl (k_Mo_refuse hO false false) (by omega) rfl (by omega) (by omega) rfl (Nat.le_of_ble_eq_true rfl) d_Mo_pass_25 ?_
    rintro v' N' M1 ⟨rfl, rfl, e1, f1⟩
    have hL1 := hL.kept (M' := M1) (fun x _ _ => f1 x (by omega))
    have hK1 := hK.kept (M' := M1) (f1 _ (by omega))
    have hO1 : OM E M1 W (nI 0) tn ts mm rr gn gs := h.own e1 f1
    first | refine g_ifB_eq (tgt := 33) d_Mo_pass_28 (by decide) (fun hb_28 => ?_) (fun hb_28 => ?_) | refine g_ifN_eq (tgt := 33) d_Mo_pass_28 (by decide) (by omega) (fun hb_28 => ?_) (fun hb_28 => ?_)
    · refine g_iconst (v := nI 0) d_Mo_pass_33 (by decide) ?_
      refine g_istore d_Mo_pass_34 (by decide) ?_
      refine g_for (P := fun i => (∀ k, k < i → isc gs (pkt a b c d) k = false) → G _ _ _ _ _ _ _ _ _ _ _ _ 36 [some (.ref W), some (.int (nI j)), some (.int (nI a)), some (.int (nI b)), some (.int (nI c)), some (.int (nI d)), some (.int (nI i)), none, none] [] _ M1 0 0) (e := gn) ?_ ?_ 0 (by omega) (fun k hk => by omega)
      · intro hno
        have efi := fi_none hno
        refine g_iload d_Mo_pass_36 rfl ?_
        refine g_aload_n d_Mo_pass_38 rfl ?_
        refine g_get f_Mo_185 (by assumption) rfl d_Mo_pass_39 ?_
        refine g_icmpN_ge (tgt := 125) d_Mo_pass_42 (by decide) (by omega) (by omega) (fun hb_42 => ?_) (fun hb_42 => ?_)
        · refine g_aload_n d_Mo_pass_125 rfl ?_
          refine g_iload_n d_Mo_pass_126 rfl ?_
          refine g_iload_n d_Mo_pass_127 rfl ?_
          refine g_iload_n d_Mo_pass_128 rfl ?_
          refine g_iload d_Mo_pass_129 rfl ?_
          refine g_iload d_Mo_pass_131 rfl ?_
          refine g_callV s_Mo_141 sv_Mo_verdictBy (by assumption) rfl (g_of_val (k_Mo_verdictBy e1 hL1 j a b c d hj ha hb hc hd)) (by omega) rfl (by omega) (by omega) rfl (Nat.le_of_ble_eq_true rfl) d_Mo_pass_133 ?_
          rintro _ _ _ ⟨rfl, rfl, rfl⟩
          generalize jdg (rr j) (mm j) (pkt a b c d) = v at hjl ⊢
          refine g_istore d_Mo_pass_136 (by decide) ?_
          refine g_iload d_Mo_pass_138 rfl ?_
          refine g_ifN_le (tgt := 166) d_Mo_pass_140 (by decide) (by omega) (fun hb_140 => ?_) (fun hb_140 => ?_)
          · refine g_iload d_Mo_pass_166 rfl ?_
            exact g_ireturn rfl rfl (by omega) (by omega) d_Mo_pass_168 ⟨_, rfl, rfl, fun x hx => f1 x (by omega), Or.inr ⟨by omega, rfl, Or.inl ⟨hb_140, hO1⟩⟩⟩
          · refine g_aload_n d_Mo_pass_143 rfl ?_
            refine g_get f_Mo_185 (by assumption) rfl d_Mo_pass_144 ?_
            refine g_iconst (v := nI 4) d_Mo_pass_147 (by decide) ?_
            refine g_icmpN_ne (tgt := 156) d_Mo_pass_148 (by decide) (by omega) (by omega) (fun hb_148 => ?_) (fun hb_148 => ?_)
            · have eN : opN gn = gn + 1 := if_pos (by omega)
              have eC : opC gn gs (pkt a b c d) = va_up gs gn (pkt a b c d) := if_pos (by omega)
              refine g_aload_n d_Mo_pass_156 rfl ?_
              refine g_iload_n d_Mo_pass_157 rfl ?_
              refine g_iload_n d_Mo_pass_158 rfl ?_
              refine g_iload d_Mo_pass_159 rfl ?_
              refine g_iload d_Mo_pass_161 rfl ?_
              refine g_callV s_Mo_194 sv_Mo_link (by assumption) rfl (k_Mo_link e1 hK1 (by omega) (pkt a b c d) a b c d rfl ha hb hc hd) (by omega) rfl (by omega) (by omega) rfl (Nat.le_of_ble_eq_true rfl) d_Mo_pass_163 ?_
              rintro v' N' M2 ⟨rfl, rfl, e2, hK2, f2⟩
              refine g_iload d_Mo_pass_166 rfl ?_
              exact g_ireturn rfl rfl (by omega) (by omega) d_Mo_pass_168 ⟨_, rfl, rfl, fun x hx => (f2 x (by omega) (by omega)).trans (f1 x (by omega)), Or.inr ⟨by omega, rfl, Or.inr ⟨by omega, by rw [eN, eC]; exact ⟨⟨rc, pl, fa, e2⟩, hT.kept ((f2 _ (by omega) (by omega)).trans (f1 _ (by omega))), hL1.kept (fun x _ _ => f2 x (by omega) (by omega)), hK2, hS.kept (fun x _ _ => (f2 x (by omega) (by omega)).trans (f1 x (by omega)))⟩⟩⟩⟩
            · have eN : opN gn = gn - 1 + 1 := (if_neg (by omega)).trans (by omega)
              have eC : opC gn gs (pkt a b c d) = va_up (fun k => if k < 0 then gs k else gs (k + 1)) (gn - 1) (pkt a b c d) := by
                unfold opC
                rw [if_neg (by omega), show gn - 1 = 3 by omega]
                congr 1
              refine g_aload_n d_Mo_pass_151 rfl ?_
              refine g_iconst (v := nI 0) d_Mo_pass_152 (by decide) ?_
              refine g_callV s_Mo_191 sv_Mo_unlink (by assumption) rfl (k_Mo_unlink e1 hK1 0 (by omega)) (by omega) rfl (by omega) (by omega) rfl (Nat.le_of_ble_eq_true rfl) d_Mo_pass_153 ?_
              rintro v' N' M2 ⟨rfl, rfl, e2, hK2, f2⟩
              refine g_aload_n d_Mo_pass_156 rfl ?_
              refine g_iload_n d_Mo_pass_157 rfl ?_
              refine g_iload_n d_Mo_pass_158 rfl ?_
              refine g_iload d_Mo_pass_159 rfl ?_
              refine g_iload d_Mo_pass_161 rfl ?_
              refine g_callV s_Mo_194 sv_Mo_link (by assumption) rfl (k_Mo_link e2 hK2 (by omega) (pkt a b c d) a b c d rfl ha hb hc hd) (by omega) rfl (by omega) (by omega) rfl (Nat.le_of_ble_eq_true rfl) d_Mo_pass_163 ?_
              rintro v' N' M3 ⟨rfl, rfl, e3, hK3, f3⟩
              refine g_iload d_Mo_pass_166 rfl ?_
              exact g_ireturn rfl rfl (by omega) (by omega) d_Mo_pass_168 ⟨_, rfl, rfl, fun x hx => (f3 x (by omega) (by omega)).trans ((f2 x (by omega) (by omega)).trans (f1 x (by omega))), Or.inr ⟨by omega, rfl, Or.inr ⟨by omega, by rw [eN, eC]; exact ⟨⟨rc, pl, fa, e3⟩, hT.kept ((f3 _ (by omega) (by omega)).trans ((f2 _ (by omega) (by omega)).trans (f1 _ (by omega)))), hL1.kept (fun x _ _ => (f3 x (by omega) (by omega)).trans (f2 x (by omega) (by omega))), hK3, hS.kept (fun x _ _ => (f3 x (by omega) (by omega)).trans ((f2 x (by omega) (by omega)).trans (f1 x (by omega))))⟩⟩⟩⟩
        · omega
      · intro i hi ih hno
        have hgs := hK.2.1 i hi
        have fin : isc gs (pkt a b c d) i = true → pv (gs i) 2 = c ∧ pv (gs i) 3 = d := by
          intro q
          unfold isc at q
          rw [hans] at q
          rcases (Bool.or_eq_true _ _).mp q with q | q
          · have := of_decide_eq_true q
            rw [this]
            exact ⟨pv_2 ha hb hc hd, pv_3 ha hb hc hd⟩
          · have := of_decide_eq_true q
            rw [this]
            exact ⟨pv_2 hb ha hc hd, pv_3 hb ha hc hd⟩
        have q0 := pv_le (gs i) 0 (by omega)
        have q1 := pv_le (gs i) 1 (by omega)
        have hK1' := hK1
        obtain ⟨k1, k2, fk, k3, k4⟩ := hK1'
        refine g_iload d_Mo_pass_36 rfl ?_
        refine g_aload_n d_Mo_pass_38 rfl ?_
        refine g_get f_Mo_185 (by assumption) rfl d_Mo_pass_39 ?_
        refine g_icmpN_ge (tgt := 125) d_Mo_pass_42 (by decide) (by omega) (by omega) (fun hb_42 => ?_) (fun hb_42 => ?_)
        · omega
        refine g_aload_n d_Mo_pass_45 rfl ?_
        refine g_iload d_Mo_pass_46 rfl ?_
        refine g_iload_n d_Mo_pass_48 rfl ?_
        refine g_iload_n d_Mo_pass_49 rfl ?_
        refine g_iload d_Mo_pass_50 rfl ?_
        refine g_iload d_Mo_pass_52 rfl ?_
        refine g_callV s_Mo_188 sv_Mo_isLink (by assumption) rfl (g_of_val (k_Mo_isLink e1 hK1 i a b c d hi ha hb hc hd)) (by omega) rfl (by omega) (by omega) rfl (Nat.le_of_ble_eq_true rfl) d_Mo_pass_54 ?_
        rintro _ _ _ ⟨rfl, rfl, rfl⟩
        first | refine g_ifB_ne (tgt := 75) d_Mo_pass_57 (by decide) (fun hb_57 => ?_) (fun hb_57 => ?_) | refine g_ifN_ne (tgt := 75) d_Mo_pass_57 (by decide) (by omega) (fun hb_57 => ?_) (fun hb_57 => ?_)
        · have hisc : isc gs (pkt a b c d) i = true := by unfold isc; rw [hb_57]; rfl
          have hfi := fi_at hi hisc hno
          have ep : gs i = pkt (pv (gs i) 0) (pv (gs i) 1) c d := by
            rw [← (fin hisc).1, ← (fin hisc).2]; exact (pkt_pv hgs).symm
          refine g_aload_n d_Mo_pass_75 rfl ?_
          refine g_get f_Mo_25 (by assumption) rfl d_Mo_pass_76 ?_
          refine g_iconst (v := nI 4) d_Mo_pass_79 (by decide) ?_
          refine g_iload d_Mo_pass_80 rfl ?_
          refine g_imul d_Mo_pass_82 ?_
          refine g_eqi (pk_mul _ _) ?_
          refine g_iald _ (by assumption) rfl (by omega) (by decide) d_Mo_pass_83 ?_
          refine g_eqi (k4 i 0 hi (by omega)) ?_
          refine g_istore d_Mo_pass_84 (by decide) ?_
          refine g_aload_n d_Mo_pass_86 rfl ?_
          refine g_get f_Mo_25 (by assumption) rfl d_Mo_pass_87 ?_
          refine g_iconst (v := nI 4) d_Mo_pass_90 (by decide) ?_
          refine g_iload d_Mo_pass_91 rfl ?_
          refine g_imul d_Mo_pass_93 ?_
          refine g_eqi (pk_mul _ _) ?_
          refine g_iconst (v := nI 1) d_Mo_pass_94 (by decide) ?_
          refine g_iadd d_Mo_pass_95 ?_
          refine g_eqi (nI_add _ _) ?_
          refine g_iald _ (by assumption) rfl (by omega) (by decide) d_Mo_pass_96 ?_
          refine g_eqi (k4 i 1 hi (by omega)) ?_
          refine g_istore d_Mo_pass_97 (by decide) ?_
          refine g_aload_n d_Mo_pass_99 rfl ?_
          refine g_iload d_Mo_pass_100 rfl ?_
          refine g_callV s_Mo_191 sv_Mo_unlink (by assumption) rfl (k_Mo_unlink e1 hK1 i hi) (by omega) rfl (by omega) (by omega) rfl (Nat.le_of_ble_eq_true rfl) d_Mo_pass_102 ?_
          rintro v' N' M2 ⟨rfl, rfl, e2, hK2, f2⟩
          refine g_aload_n d_Mo_pass_105 rfl ?_
          refine g_iload d_Mo_pass_106 rfl ?_
          refine g_iload d_Mo_pass_108 rfl ?_
          refine g_iload d_Mo_pass_110 rfl ?_
          refine g_iload d_Mo_pass_112 rfl ?_
          refine g_callV s_Mo_194 sv_Mo_link (by assumption) rfl (k_Mo_link e2 hK2 (by omega) (gs i) (pv (gs i) 0) (pv (gs i) 1) c d ep q0 q1 hc hd) (by omega) rfl (by omega) (by omega) rfl (Nat.le_of_ble_eq_true rfl) d_Mo_pass_114 ?_
          rintro v' N' M3 ⟨rfl, rfl, e3, hK3, f3⟩
          rw [show gn - 1 + 1 = gn by omega] at e3 hK3
          refine g_iconst (v := nI 3) d_Mo_pass_117 (by decide) ?_
          exact g_ireturn rfl rfl (by omega) (by omega) d_Mo_pass_118 ⟨_, rfl, rfl, fun x hx => (f3 x (by omega) (by omega)).trans ((f2 x (by omega) (by omega)).trans (f1 x (by omega))), Or.inl ⟨by rw [hfi]; exact hi, rfl, by rw [hfi]; exact ⟨⟨rc, pl, fa, e3⟩, hT.kept ((f3 _ (by omega) (by omega)).trans ((f2 _ (by omega) (by omega)).trans (f1 _ (by omega)))), hL1.kept (fun x _ _ => (f3 x (by omega) (by omega)).trans (f2 x (by omega) (by omega))), hK3, hS.kept (fun x _ _ => (f3 x (by omega) (by omega)).trans ((f2 x (by omega) (by omega)).trans (f1 x (by omega))))⟩⟩⟩
        · refine g_aload_n d_Mo_pass_60 rfl ?_
          refine g_iload d_Mo_pass_61 rfl ?_
          refine g_iload_n d_Mo_pass_63 rfl ?_
          refine g_iload_n d_Mo_pass_64 rfl ?_
          refine g_iload d_Mo_pass_65 rfl ?_
          refine g_iload d_Mo_pass_67 rfl ?_
          refine g_callV s_Mo_188 sv_Mo_isLink (by assumption) rfl (g_of_val (k_Mo_isLink e1 hK1 i b a c d hi hb ha hc hd)) (by omega) rfl (by omega) (by omega) rfl (Nat.le_of_ble_eq_true rfl) d_Mo_pass_69 ?_
          rintro _ _ _ ⟨rfl, rfl, rfl⟩
          first | refine g_ifB_eq (tgt := 119) d_Mo_pass_72 (by decide) (fun hb_72 => ?_) (fun hb_72 => ?_) | refine g_ifN_eq (tgt := 119) d_Mo_pass_72 (by decide) (by omega) (fun hb_72 => ?_) (fun hb_72 => ?_)
          · refine g_iinc1 d_Mo_pass_119 rfl (by decide) ?_
            refine g_goto (tgt := 36) d_Mo_pass_122 (by decide) ?_
            refine ih (fun k hk => ?_)
            by_cases e : k = i
            · rw [e]; unfold isc; rw [hans, hb_57, hb_72]; rfl
            · exact hno k (by omega)
          · have hisc : isc gs (pkt a b c d) i = true := by unfold isc; rw [hans, hb_72, Bool.or_true]
            have hfi := fi_at hi hisc hno
            have ep : gs i = pkt (pv (gs i) 0) (pv (gs i) 1) c d := by
              rw [← (fin hisc).1, ← (fin hisc).2]; exact (pkt_pv hgs).symm
            refine g_aload_n d_Mo_pass_75 rfl ?_
            refine g_get f_Mo_25 (by assumption) rfl d_Mo_pass_76 ?_
            refine g_iconst (v := nI 4) d_Mo_pass_79 (by decide) ?_
            refine g_iload d_Mo_pass_80 rfl ?_
            refine g_imul d_Mo_pass_82 ?_
            refine g_eqi (pk_mul _ _) ?_
            refine g_iald _ (by assumption) rfl (by omega) (by decide) d_Mo_pass_83 ?_
            refine g_eqi (k4 i 0 hi (by omega)) ?_
            refine g_istore d_Mo_pass_84 (by decide) ?_
            refine g_aload_n d_Mo_pass_86 rfl ?_
            refine g_get f_Mo_25 (by assumption) rfl d_Mo_pass_87 ?_
            refine g_iconst (v := nI 4) d_Mo_pass_90 (by decide) ?_
            refine g_iload d_Mo_pass_91 rfl ?_
            refine g_imul d_Mo_pass_93 ?_
            refine g_eqi (pk_mul _ _) ?_
            refine g_iconst (v := nI 1) d_Mo_pass_94 (by decide) ?_
            refine g_iadd d_Mo_pass_95 ?_
            refine g_eqi (nI_add _ _) ?_
            refine g_iald _ (by assumption) rfl (by omega) (by decide) d_Mo_pass_96 ?_
            refine g_eqi (k4 i 1 hi (by omega)) ?_
            refine g_istore d_Mo_pass_97 (by decide) ?_
            refine g_aload_n d_Mo_pass_99 rfl ?_
            refine g_iload d_Mo_pass_100 rfl ?_
            refine g_callV s_Mo_191 sv_Mo_unlink (by assumption) rfl (k_Mo_unlink e1 hK1 i hi) (by omega) rfl (by omega) (by omega) rfl (Nat.le_of_ble_eq_true rfl) d_Mo_pass_102 ?_
            rintro v' N' M2 ⟨rfl, rfl, e2, hK2, f2⟩
            refine g_aload_n d_Mo_pass_105 rfl ?_
            refine g_iload d_Mo_pass_106 rfl ?_
            refine g_iload d_Mo_pass_108 rfl ?_
            refine g_iload d_Mo_pass_110 rfl ?_
            refine g_iload d_Mo_pass_112 rfl ?_
            refine g_callV s_Mo_194 sv_Mo_link (by assumption) rfl (k_Mo_link e2 hK2 (by omega) (gs i) (pv (gs i) 0) (pv (gs i) 1) c d ep q0 q1 hc hd) (by omega) rfl (by omega) (by omega) rfl (Nat.le_of_ble_eq_true rfl) d_Mo_pass_114 ?_
            rintro v' N' M3 ⟨rfl, rfl, e3, hK3, f3⟩
            rw [show gn - 1 + 1 = gn by omega] at e3 hK3
            refine g_iconst (v := nI 3) d_Mo_pass_117 (by decide) ?_
            exact g_ireturn rfl rfl (by omega) (by omega) d_Mo_pass_118 ⟨_, rfl, rfl, fun x hx => (f3 x (by omega) (by omega)).trans ((f2 x (by omega) (by omega)).trans (f1 x (by omega))), Or.inl ⟨by rw [hfi]; exact hi, rfl, by rw [hfi]; exact ⟨⟨rc, pl, fa, e3⟩, hT.kept ((f3 _ (by omega) (by omega)).trans ((f2 _ (by omega) (by omega)).trans (f1 _ (by omega)))), hL1.kept (fun x _ _ => (f3 x (by omega) (by omega)).trans (f2 x (by omega) (by omega))), hK3, hS.kept (fun x _ _ => (f3 x (by omega) (by omega)).trans ((f2 x (by omega) (by omega)).trans (f1 x (by omega))))⟩⟩⟩
    · cases hb_28
  · rw [hin] at hb_7; cases hb_7
theorem x_Mo_pass (h : OM E M W th tn ts mm rr gn gs) (j : Nat) (hj : j < 2) (a b c d : Int32) (hp : noP a b c d) : Ctr l E y_Mo_pass 4 [.ref W, .int (nI j), .int (a), .int (b), .int (c), .int (d)] N M 0 0 (g_ret (fun v N' M' => v = some (.int (nI 0)) ∧ N' = N ∧ OM E M' W (nI 2) tn ts mm rr gn gs ∧ ∀ x, x ≠ W → M' x = M x)) := by
  obtain ⟨⟨rc, pl, fa, hO⟩, hT, hL, hK, hS⟩ := h
  have h : OM E M W th tn ts mm rr gn gs := ⟨⟨rc, pl, fa, hO⟩, hT, hL, hK, hS⟩
  have hin := inI_yes (j := j) (k := 1) (by omega) (by omega)
  have hnpk := fun (N : Nat) => k_Mo_noPacket (l := l) (E := E) (N := N) (a) (b) (c) (d) hO
  rw [npI_no hp] at hnpk
  refine ctr_of [some (.ref W), some (.int (nI j)), some (.int (a)), some (.int (b)), some (.int (c)), some (.int (d)), none, none, none] (by decide) w_1162 rfl rfl (Nat.le_of_ble_eq_true rfl) (fun Γ => ?_)
  refine g_aload_n d_Mo_pass_0 rfl ?_
  refine g_iload_n d_Mo_pass_1 rfl ?_
  refine g_iconst (v := nI 0) d_Mo_pass_2 (by decide) ?_
  refine g_iconst (v := nI 1) d_Mo_pass_3 (by decide) ?_
  refine g_callS s_Mo_112 sv_Mo_in (g_of_val (k_Mo_in _ _ _)) (by omega) rfl (by omega) (by omega) rfl (Nat.le_of_ble_eq_true rfl) d_Mo_pass_4 ?_
  rintro _ _ _ ⟨rfl, rfl, rfl⟩
  first | refine g_ifB_ne (tgt := 14) d_Mo_pass_7 (by decide) (fun hb_7 => ?_) (fun hb_7 => ?_) | refine g_ifN_ne (tgt := 14) d_Mo_pass_7 (by decide) (by omega) (fun hb_7 => ?_) (fun hb_7 => ?_)
  · refine g_iconst (v := nI 0) d_Mo_pass_14 (by decide) ?_
    refine g_aload_n d_Mo_pass_15 rfl ?_
    refine g_iload_n d_Mo_pass_16 rfl ?_
    refine g_iload_n d_Mo_pass_17 rfl ?_
    refine g_iload d_Mo_pass_18 rfl ?_
    refine g_iload d_Mo_pass_20 rfl ?_
    refine g_callV s_Mo_137 sv_Mo_noPacket (by assumption) rfl (g_of_val (hnpk _)) (by omega) rfl (by omega) (by omega) rfl (Nat.le_of_ble_eq_true rfl) d_Mo_pass_22 ?_
    rintro _ _ _ ⟨rfl, rfl, rfl⟩
    refine g_callV s_Mo_57 sv_Mo_refuse (by assumption) rfl (k_Mo_refuse hO false true) (by omega) rfl (by omega) (by omega) rfl (Nat.le_of_ble_eq_true rfl) d_Mo_pass_25 ?_
    rintro v' N' M1 ⟨rfl, rfl, e1, f1⟩
    have hL1 := hL.kept (M' := M1) (fun x _ _ => f1 x (by omega))
    have hK1 := hK.kept (M' := M1) (f1 _ (by omega))
    first | refine g_ifB_eq (tgt := 33) d_Mo_pass_28 (by decide) (fun hb_28 => ?_) (fun hb_28 => ?_) | refine g_ifN_eq (tgt := 33) d_Mo_pass_28 (by decide) (by omega) (fun hb_28 => ?_) (fun hb_28 => ?_)
    · cases hb_28
    · refine g_iconst (v := nI 0) d_Mo_pass_31 (by decide) ?_
      exact g_ireturn rfl rfl (by omega) (by omega) d_Mo_pass_32 ⟨_, rfl, rfl, rfl, h.own e1 f1, f1⟩
  · rw [hin] at hb_7; cases hb_7
theorem xl_Mo_pass (h : OM E M W th tn ts mm rr gn gs) (x a b c d : Int32) (hx : noN x 2) : Ctr l E y_Mo_pass 4 [.ref W, .int (x), .int (a), .int (b), .int (c), .int (d)] N M 0 0 (g_ret (fun v N' M' => v = some (.int (nI 0)) ∧ N' = N ∧ OM E M' W (nI 1) tn ts mm rr gn gs ∧ ∀ x, x ≠ W → M' x = M x)) := by
  obtain ⟨⟨rc, pl, fa, hO⟩, hT, hL, hK, hS⟩ := h
  have h : OM E M W th tn ts mm rr gn gs := ⟨⟨rc, pl, fa, hO⟩, hT, hL, hK, hS⟩
  have hin := inI_no (k := 1) hx (by omega)
  have hnpk := fun (N : Nat) => k_Mo_noPacket (l := l) (E := E) (N := N) (a) (b) (c) (d) hO
  refine ctr_of [some (.ref W), some (.int (x)), some (.int (a)), some (.int (b)), some (.int (c)), some (.int (d)), none, none, none] (by decide) w_1162 rfl rfl (Nat.le_of_ble_eq_true rfl) (fun Γ => ?_)
  refine g_aload_n d_Mo_pass_0 rfl ?_
  refine g_iload_n d_Mo_pass_1 rfl ?_
  refine g_iconst (v := nI 0) d_Mo_pass_2 (by decide) ?_
  refine g_iconst (v := nI 1) d_Mo_pass_3 (by decide) ?_
  refine g_callS s_Mo_112 sv_Mo_in (g_of_val (k_Mo_in _ _ _)) (by omega) rfl (by omega) (by omega) rfl (Nat.le_of_ble_eq_true rfl) d_Mo_pass_4 ?_
  rintro _ _ _ ⟨rfl, rfl, rfl⟩
  first | refine g_ifB_ne (tgt := 14) d_Mo_pass_7 (by decide) (fun hb_7 => ?_) (fun hb_7 => ?_) | refine g_ifN_ne (tgt := 14) d_Mo_pass_7 (by decide) (by omega) (fun hb_7 => ?_) (fun hb_7 => ?_)
  · rw [hin] at hb_7; cases hb_7
  · refine g_iconst (v := nI 1) d_Mo_pass_10 (by decide) ?_
    refine g_goto (tgt := 15) d_Mo_pass_11 (by decide) ?_
    refine g_aload_n d_Mo_pass_15 rfl ?_
    refine g_iload_n d_Mo_pass_16 rfl ?_
    refine g_iload_n d_Mo_pass_17 rfl ?_
    refine g_iload d_Mo_pass_18 rfl ?_
    refine g_iload d_Mo_pass_20 rfl ?_
    refine g_callV s_Mo_137 sv_Mo_noPacket (by assumption) rfl (g_of_val (hnpk _)) (by omega) rfl (by omega) (by omega) rfl (Nat.le_of_ble_eq_true rfl) d_Mo_pass_22 ?_
    rintro _ _ _ ⟨rfl, rfl, rfl⟩
    refine g_callV s_Mo_57 sv_Mo_refuse (by assumption) rfl (k_Mo_refuse hO true (npI a b c d)) (by omega) rfl (by omega) (by omega) rfl (Nat.le_of_ble_eq_true rfl) d_Mo_pass_25 ?_
    rintro v' N' M1 ⟨rfl, rfl, e1, f1⟩
    first | refine g_ifB_eq (tgt := 33) d_Mo_pass_28 (by decide) (fun hb_28 => ?_) (fun hb_28 => ?_) | refine g_ifN_eq (tgt := 33) d_Mo_pass_28 (by decide) (by omega) (fun hb_28 => ?_) (fun hb_28 => ?_)
    · cases hb_28
    · refine g_iconst (v := nI 0) d_Mo_pass_31 (by decide) ?_
      exact g_ireturn rfl rfl (by omega) (by omega) d_Mo_pass_32 ⟨_, rfl, rfl, rfl, h.own e1 f1, f1⟩
end MPASS

