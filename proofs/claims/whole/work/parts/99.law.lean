/-! the law's loop -/
section LAW
variable {l : Launch} {E : gE}
theorem law_put {tb : List ExceptionTableEntry} {Γ : gT} {b B nn t N k n tn : Nat} {M : gM} {th : Int32} {ts mm : Nat → Nat} {rr : Nat → Nat → Rl} {gn : Nat} {gs : Nat → Nat} {fo : Nat → Int64} {y5 y6 : Option Value} {xs : Nat → Int32} (hX : g_X (g_s Γ)) (hXs : va_X b nn xs (g_s Γ) (g_h0 E)) (hnn : nn ≤ 3072) (ht : 6 * t + 6 ≤ nn)
    (ih : ∀ (N : Nat) (M : gM) (k n : Nat) (th : Int32) (tn : Nat) (ts mm : Nat → Nat) (rr : Nat → Nat → Rl) (gn : Nat) (gs : Nat → Nat) (fo : Nat → Int64) (y5 y6 : Option Value), OA E M B tn ts mm rr gn gs → OM E M (B + 152) th tn ts mm rr gn gs → M (B + 165) = some (g_la E 1 fo) → B + 166 ≤ N → k ≤ 200 + (t + 1) → n ≤ 30000 + 6 * (t + 1) → G l E y_La_law code 7 ret tb 840 (g_ret (fun v _ _ => v = some (.int 1))) 601024 7293034 Γ 23 [some (.ref b), some (.ref B), some (.ref (B + 152)), some (.ref (B + 165)), some (.int (nI (6 * (t + 1)))), y5, y6] [] N M k n)
    (h : OA E M B tn ts mm rr gn gs) (hm : OM E M (B + 152) th tn ts mm rr gn gs) (ho : M (B + 165) = some (g_la E 1 fo)) (hN : B + 166 ≤ N) (hk : k ≤ 200 + t) (hn : n ≤ 30000 + 6 * t) : G l E y_La_law code 7 ret tb 840 (g_ret (fun v _ _ => v = some (.int 1))) 601024 7293034 Γ 124 [some (.ref b), some (.ref B), some (.ref (B + 152)), some (.ref (B + 165)), some (.int (nI (6 * t))), y5, y6] [] N M k n := by
  obtain ⟨P, hCX, hP⟩ := j_put (l := l) h hm ho hN (xs (6 * t + 1))
  refine g_aload_n d_La_law_124 rfl ?_
  refine g_aload_n d_La_law_125 rfl ?_
  refine g_iload d_La_law_126 rfl ?_
  refine g_iconst (v := nI 1) d_La_law_128 (by decide) ?_
  refine g_iadd d_La_law_129 ?_
  refine g_eqi (nI_add _ _) ?_
  refine g_sald (6 * t + 1) hXs rfl (by omega) (by omega) d_La_law_130 ?_
  refine g_aload_n d_La_law_131 rfl ?_
  refine g_callSX (np := 3) hX w_315 w_0 w_317 ⟨by decide, by decide⟩ (by decide +kernel) (by decide) w_316 hCX (by omega) rfl (by omega) (by omega) rfl (Nat.le_of_ble_eq_true rfl) d_La_law_132 ?_
  rintro v N1 M1 hp
  obtain ⟨kc, rfl, hk3, hN1, hN2, ⟨fs1, hobj1⟩, Pm, hcm, hpm⟩ := hP _ _ _ hp
  refine g_istore d_La_law_135 (by decide) ?_
  refine g_aload_n d_La_law_137 rfl ?_
  refine g_aload_n d_La_law_138 rfl ?_
  refine g_iload d_La_law_139 rfl ?_
  refine g_iconst (v := nI 1) d_La_law_141 (by decide) ?_
  refine g_iadd d_La_law_142 ?_
  refine g_eqi (nI_add _ _) ?_
  refine g_sald (6 * t + 1) hXs rfl (by omega) (by omega) d_La_law_143 ?_
  refine g_callV s_La_77 sv_Mo_put (by assumption) rfl (hcm) (by omega) rfl (by omega) (by omega) rfl (Nat.le_of_ble_eq_true rfl) d_La_law_144 ?_
  rintro w N2 M2 hw
  obtain ⟨rfl, zb, fo2, tn2, ts2, mm2, rr2, gn2, gs2, hw1, hOA, hOM, ho2, hval⟩ := hpm _ _ _ hw
  obtain ⟨⟨rc, pl, fa, hobj2⟩, -⟩ := id hOM
  have hw2 : w = some (.int zb) := hw1
  subst hw2
  refine g_istore d_La_law_147 (by decide) ?_
  refine g_aload_n d_La_law_149 rfl ?_
  refine g_callV s_La_78 sv_Mo_thrown (by assumption) rfl (g_of_val (k_Mo_thrown hobj2)) (by omega) rfl (by omega) (by omega) rfl (Nat.le_of_ble_eq_true rfl) d_La_law_150 ?_
  rintro _ _ _ ⟨rfl, rfl, rfl⟩
  refine g_iload d_La_law_153 rfl ?_
  refine g_icmpN_eq (tgt := 160) d_La_law_155 (by decide) (by omega) (by omega) (fun hb_155 => ?_) (fun hb_155 => ?_)
  rotate_left
  · exact absurd rfl hb_155
  refine g_iload d_La_law_160 rfl ?_
  first | refine g_ifB_ne (tgt := 177) d_La_law_162 (by decide) (fun hb_162 => ?_) (fun hb_162 => ?_) | refine g_ifN_ne (tgt := 177) d_La_law_162 (by decide) (by omega) (fun hb_162 => ?_) (fun hb_162 => ?_)
  · refine g_goto (tgt := 1233) d_La_law_177 (by decide) ?_
    refine g_iinc (v := nI (6 * (t + 1))) d_La_law_1233 rfl (by rw [show Int32.ofInt 6 = nI 6 from rfl, nI_add, Nat.mul_succ]) (by decide) ?_
    refine g_goto (tgt := 23) d_La_law_1236 (by decide) ?_
    exact ih _ M2 _ _ _ tn2 ts2 mm2 rr2 gn2 gs2 fo2 _ _ hOA hOM ho2 (by omega) (by omega) (by omega)
  · refine g_aload_n d_La_law_165 rfl ?_
    refine g_iconst (v := nI 0) d_La_law_166 (by decide) ?_
    refine g_lald _ (by assumption) rfl (by omega) (by decide) d_La_law_167 ?_
    refine g_iload d_La_law_168 rfl ?_
    refine g_i2l d_La_law_170 rfl ?_
    refine g_lcmp d_La_law_171 ?_
    rw [hval hb_162 rfl]
    refine g_if_eq (tgt := 177) d_La_law_172 (by decide) (fun _ => ?_) (fun hb => absurd (lg_self _) hb)
    refine g_goto (tgt := 1233) d_La_law_177 (by decide) ?_
    refine g_iinc (v := nI (6 * (t + 1))) d_La_law_1233 rfl (by rw [show Int32.ofInt 6 = nI 6 from rfl, nI_add, Nat.mul_succ]) (by decide) ?_
    refine g_goto (tgt := 23) d_La_law_1236 (by decide) ?_
    exact ih _ M2 _ _ _ tn2 ts2 mm2 rr2 gn2 gs2 fo2 _ _ hOA hOM ho2 (by omega) (by omega) (by omega)
theorem law_read {tb : List ExceptionTableEntry} {Γ : gT} {b B nn t N k n tn : Nat} {M : gM} {th : Int32} {ts mm : Nat → Nat} {rr : Nat → Nat → Rl} {gn : Nat} {gs : Nat → Nat} {fo : Nat → Int64} {y5 y6 : Option Value} {xs : Nat → Int32} (hX : g_X (g_s Γ)) (hXs : va_X b nn xs (g_s Γ) (g_h0 E)) (hnn : nn ≤ 3072) (ht : 6 * t + 6 ≤ nn)
    (ih : ∀ (N : Nat) (M : gM) (k n : Nat) (th : Int32) (tn : Nat) (ts mm : Nat → Nat) (rr : Nat → Nat → Rl) (gn : Nat) (gs : Nat → Nat) (fo : Nat → Int64) (y5 y6 : Option Value), OA E M B tn ts mm rr gn gs → OM E M (B + 152) th tn ts mm rr gn gs → M (B + 165) = some (g_la E 1 fo) → B + 166 ≤ N → k ≤ 200 + (t + 1) → n ≤ 30000 + 6 * (t + 1) → G l E y_La_law code 7 ret tb 840 (g_ret (fun v _ _ => v = some (.int 1))) 601024 7293034 Γ 23 [some (.ref b), some (.ref B), some (.ref (B + 152)), some (.ref (B + 165)), some (.int (nI (6 * (t + 1)))), y5, y6] [] N M k n)
    (h : OA E M B tn ts mm rr gn gs) (hm : OM E M (B + 152) th tn ts mm rr gn gs) (ho : M (B + 165) = some (g_la E 1 fo)) (hN : B + 166 ≤ N) (hk : k ≤ 200 + t) (hn : n ≤ 30000 + 6 * t) : G l E y_La_law code 7 ret tb 840 (g_ret (fun v _ _ => v = some (.int 1))) 601024 7293034 Γ 180 [some (.ref b), some (.ref B), some (.ref (B + 152)), some (.ref (B + 165)), some (.int (nI (6 * t))), y5, y6] [] N M k n := by
  obtain ⟨P, hCX, hP⟩ := j_read (l := l) h hm ho hN (xs (6 * t + 1))
  refine g_aload_n d_La_law_180 rfl ?_
  refine g_aload_n d_La_law_181 rfl ?_
  refine g_iload d_La_law_182 rfl ?_
  refine g_iconst (v := nI 1) d_La_law_184 (by decide) ?_
  refine g_iadd d_La_law_185 ?_
  refine g_eqi (nI_add _ _) ?_
  refine g_sald (6 * t + 1) hXs rfl (by omega) (by omega) d_La_law_186 ?_
  refine g_aload_n d_La_law_187 rfl ?_
  refine g_callSX (np := 3) hX w_427 w_0 w_429 ⟨by decide, by decide⟩ (by decide +kernel) (by decide) w_428 hCX (by omega) rfl (by omega) (by omega) rfl (Nat.le_of_ble_eq_true rfl) d_La_law_188 ?_
  rintro v N1 M1 hp
  obtain ⟨kc, rfl, hk3, hN1, hN2, ⟨fs1, hobj1⟩, Pm, hcm, hpm⟩ := hP _ _ _ hp
  refine g_istore d_La_law_191 (by decide) ?_
  refine g_aload_n d_La_law_193 rfl ?_
  refine g_aload_n d_La_law_194 rfl ?_
  refine g_iload d_La_law_195 rfl ?_
  refine g_iconst (v := nI 1) d_La_law_197 (by decide) ?_
  refine g_iadd d_La_law_198 ?_
  refine g_eqi (nI_add _ _) ?_
  refine g_sald (6 * t + 1) hXs rfl (by omega) (by omega) d_La_law_199 ?_
  refine g_callV s_La_84 sv_Mo_read (by assumption) rfl (hcm) (by omega) rfl (by omega) (by omega) rfl (Nat.le_of_ble_eq_true rfl) d_La_law_200 ?_
  rintro w N2 M2 hw
  obtain ⟨rfl, zb, fo2, tn2, ts2, mm2, rr2, gn2, gs2, hw1, hOA, hOM, ho2, hval⟩ := hpm _ _ _ hw
  obtain ⟨⟨rc, pl, fa, hobj2⟩, -⟩ := id hOM
  have hw2 : w = some (.int zb) := hw1
  subst hw2
  refine g_istore d_La_law_203 (by decide) ?_
  refine g_aload_n d_La_law_205 rfl ?_
  refine g_callV s_La_78 sv_Mo_thrown (by assumption) rfl (g_of_val (k_Mo_thrown hobj2)) (by omega) rfl (by omega) (by omega) rfl (Nat.le_of_ble_eq_true rfl) d_La_law_206 ?_
  rintro _ _ _ ⟨rfl, rfl, rfl⟩
  refine g_iload d_La_law_209 rfl ?_
  refine g_icmpN_eq (tgt := 216) d_La_law_211 (by decide) (by omega) (by omega) (fun hb_211 => ?_) (fun hb_211 => ?_)
  rotate_left
  · exact absurd rfl hb_211
  refine g_iload d_La_law_216 rfl ?_
  first | refine g_ifB_ne (tgt := 233) d_La_law_218 (by decide) (fun hb_218 => ?_) (fun hb_218 => ?_) | refine g_ifN_ne (tgt := 233) d_La_law_218 (by decide) (by omega) (fun hb_218 => ?_) (fun hb_218 => ?_)
  · refine g_goto (tgt := 1233) d_La_law_233 (by decide) ?_
    refine g_iinc (v := nI (6 * (t + 1))) d_La_law_1233 rfl (by rw [show Int32.ofInt 6 = nI 6 from rfl, nI_add, Nat.mul_succ]) (by decide) ?_
    refine g_goto (tgt := 23) d_La_law_1236 (by decide) ?_
    exact ih _ M2 _ _ _ tn2 ts2 mm2 rr2 gn2 gs2 fo2 _ _ hOA hOM ho2 (by omega) (by omega) (by omega)
  · refine g_aload_n d_La_law_221 rfl ?_
    refine g_iconst (v := nI 0) d_La_law_222 (by decide) ?_
    refine g_lald _ (by assumption) rfl (by omega) (by decide) d_La_law_223 ?_
    refine g_iload d_La_law_224 rfl ?_
    refine g_i2l d_La_law_226 rfl ?_
    refine g_lcmp d_La_law_227 ?_
    rw [hval hb_218 rfl]
    refine g_if_eq (tgt := 233) d_La_law_228 (by decide) (fun _ => ?_) (fun hb => absurd (lg_self _) hb)
    refine g_goto (tgt := 1233) d_La_law_233 (by decide) ?_
    refine g_iinc (v := nI (6 * (t + 1))) d_La_law_1233 rfl (by rw [show Int32.ofInt 6 = nI 6 from rfl, nI_add, Nat.mul_succ]) (by decide) ?_
    refine g_goto (tgt := 23) d_La_law_1236 (by decide) ?_
    exact ih _ M2 _ _ _ tn2 ts2 mm2 rr2 gn2 gs2 fo2 _ _ hOA hOM ho2 (by omega) (by omega) (by omega)
theorem law_remove {tb : List ExceptionTableEntry} {Γ : gT} {b B nn t N k n tn : Nat} {M : gM} {th : Int32} {ts mm : Nat → Nat} {rr : Nat → Nat → Rl} {gn : Nat} {gs : Nat → Nat} {fo : Nat → Int64} {y5 y6 : Option Value} {xs : Nat → Int32} (hX : g_X (g_s Γ)) (hXs : va_X b nn xs (g_s Γ) (g_h0 E)) (hnn : nn ≤ 3072) (ht : 6 * t + 6 ≤ nn)
    (ih : ∀ (N : Nat) (M : gM) (k n : Nat) (th : Int32) (tn : Nat) (ts mm : Nat → Nat) (rr : Nat → Nat → Rl) (gn : Nat) (gs : Nat → Nat) (fo : Nat → Int64) (y5 y6 : Option Value), OA E M B tn ts mm rr gn gs → OM E M (B + 152) th tn ts mm rr gn gs → M (B + 165) = some (g_la E 1 fo) → B + 166 ≤ N → k ≤ 200 + (t + 1) → n ≤ 30000 + 6 * (t + 1) → G l E y_La_law code 7 ret tb 840 (g_ret (fun v _ _ => v = some (.int 1))) 601024 7293034 Γ 23 [some (.ref b), some (.ref B), some (.ref (B + 152)), some (.ref (B + 165)), some (.int (nI (6 * (t + 1)))), y5, y6] [] N M k n)
    (h : OA E M B tn ts mm rr gn gs) (hm : OM E M (B + 152) th tn ts mm rr gn gs) (ho : M (B + 165) = some (g_la E 1 fo)) (hN : B + 166 ≤ N) (hk : k ≤ 200 + t) (hn : n ≤ 30000 + 6 * t) : G l E y_La_law code 7 ret tb 840 (g_ret (fun v _ _ => v = some (.int 1))) 601024 7293034 Γ 236 [some (.ref b), some (.ref B), some (.ref (B + 152)), some (.ref (B + 165)), some (.int (nI (6 * t))), y5, y6] [] N M k n := by
  obtain ⟨P, hCX, hP⟩ := j_remove (l := l) h hm ho hN (xs (6 * t + 1)) (xs (6 * t + 2))
  refine g_aload_n d_La_law_236 rfl ?_
  refine g_aload_n d_La_law_237 rfl ?_
  refine g_iload d_La_law_238 rfl ?_
  refine g_iconst (v := nI 1) d_La_law_240 (by decide) ?_
  refine g_iadd d_La_law_241 ?_
  refine g_eqi (nI_add _ _) ?_
  refine g_sald (6 * t + 1) hXs rfl (by omega) (by omega) d_La_law_242 ?_
  refine g_aload_n d_La_law_243 rfl ?_
  refine g_iload d_La_law_244 rfl ?_
  refine g_iconst (v := nI 2) d_La_law_246 (by decide) ?_
  refine g_iadd d_La_law_247 ?_
  refine g_eqi (nI_add _ _) ?_
  refine g_sald (6 * t + 2) hXs rfl (by omega) (by omega) d_La_law_248 ?_
  refine g_callSX (np := 3) hX w_635 w_0 w_637 ⟨by decide, by decide⟩ (by decide +kernel) (by decide) w_636 hCX (by omega) rfl (by omega) (by omega) rfl (Nat.le_of_ble_eq_true rfl) d_La_law_249 ?_
  rintro v N1 M1 hp
  obtain ⟨kc, rfl, hk3, hN1, hN2, ⟨fs1, hobj1⟩, Pm, hcm, hpm⟩ := hP _ _ _ hp
  refine g_istore d_La_law_252 (by decide) ?_
  refine g_aload_n d_La_law_254 rfl ?_
  refine g_aload_n d_La_law_255 rfl ?_
  refine g_iload d_La_law_256 rfl ?_
  refine g_iconst (v := nI 1) d_La_law_258 (by decide) ?_
  refine g_iadd d_La_law_259 ?_
  refine g_eqi (nI_add _ _) ?_
  refine g_sald (6 * t + 1) hXs rfl (by omega) (by omega) d_La_law_260 ?_
  refine g_aload_n d_La_law_261 rfl ?_
  refine g_iload d_La_law_262 rfl ?_
  refine g_iconst (v := nI 2) d_La_law_264 (by decide) ?_
  refine g_iadd d_La_law_265 ?_
  refine g_eqi (nI_add _ _) ?_
  refine g_sald (6 * t + 2) hXs rfl (by omega) (by omega) d_La_law_266 ?_
  refine g_callV s_La_88 sv_Mo_remove (by assumption) rfl (hcm) (by omega) rfl (by omega) (by omega) rfl (Nat.le_of_ble_eq_true rfl) d_La_law_267 ?_
  rintro w N2 M2 hw
  obtain ⟨rfl, zb, fo2, tn2, ts2, mm2, rr2, gn2, gs2, hw1, hOA, hOM, ho2, hval⟩ := hpm _ _ _ hw
  obtain ⟨⟨rc, pl, fa, hobj2⟩, -⟩ := id hOM
  have hw2 : w = none := hw1
  subst hw2
  refine g_aload_n d_La_law_270 rfl ?_
  refine g_callV s_La_78 sv_Mo_thrown (by assumption) rfl (g_of_val (k_Mo_thrown hobj2)) (by omega) rfl (by omega) (by omega) rfl (Nat.le_of_ble_eq_true rfl) d_La_law_271 ?_
  rintro _ _ _ ⟨rfl, rfl, rfl⟩
  refine g_iload d_La_law_274 rfl ?_
  refine g_icmpN_eq (tgt := 281) d_La_law_276 (by decide) (by omega) (by omega) (fun hb_276 => ?_) (fun hb_276 => ?_)
  rotate_left
  · exact absurd rfl hb_276
  refine g_goto (tgt := 1233) d_La_law_281 (by decide) ?_
  refine g_iinc (v := nI (6 * (t + 1))) d_La_law_1233 rfl (by rw [show Int32.ofInt 6 = nI 6 from rfl, nI_add, Nat.mul_succ]) (by decide) ?_
  refine g_goto (tgt := 23) d_La_law_1236 (by decide) ?_
  exact ih _ M2 _ _ _ tn2 ts2 mm2 rr2 gn2 gs2 fo2 _ _ hOA hOM ho2 (by omega) (by omega) (by omega)
theorem law_swap {tb : List ExceptionTableEntry} {Γ : gT} {b B nn t N k n tn : Nat} {M : gM} {th : Int32} {ts mm : Nat → Nat} {rr : Nat → Nat → Rl} {gn : Nat} {gs : Nat → Nat} {fo : Nat → Int64} {y5 y6 : Option Value} {xs : Nat → Int32} (hX : g_X (g_s Γ)) (hXs : va_X b nn xs (g_s Γ) (g_h0 E)) (hnn : nn ≤ 3072) (ht : 6 * t + 6 ≤ nn)
    (ih : ∀ (N : Nat) (M : gM) (k n : Nat) (th : Int32) (tn : Nat) (ts mm : Nat → Nat) (rr : Nat → Nat → Rl) (gn : Nat) (gs : Nat → Nat) (fo : Nat → Int64) (y5 y6 : Option Value), OA E M B tn ts mm rr gn gs → OM E M (B + 152) th tn ts mm rr gn gs → M (B + 165) = some (g_la E 1 fo) → B + 166 ≤ N → k ≤ 200 + (t + 1) → n ≤ 30000 + 6 * (t + 1) → G l E y_La_law code 7 ret tb 840 (g_ret (fun v _ _ => v = some (.int 1))) 601024 7293034 Γ 23 [some (.ref b), some (.ref B), some (.ref (B + 152)), some (.ref (B + 165)), some (.int (nI (6 * (t + 1)))), y5, y6] [] N M k n)
    (h : OA E M B tn ts mm rr gn gs) (hm : OM E M (B + 152) th tn ts mm rr gn gs) (ho : M (B + 165) = some (g_la E 1 fo)) (hN : B + 166 ≤ N) (hk : k ≤ 200 + t) (hn : n ≤ 30000 + 6 * t) : G l E y_La_law code 7 ret tb 840 (g_ret (fun v _ _ => v = some (.int 1))) 601024 7293034 Γ 284 [some (.ref b), some (.ref B), some (.ref (B + 152)), some (.ref (B + 165)), some (.int (nI (6 * t))), y5, y6] [] N M k n := by
  obtain ⟨P, hCX, hP⟩ := j_swap (l := l) h hm ho hN (xs (6 * t + 1)) (xs (6 * t + 2))
  refine g_aload_n d_La_law_284 rfl ?_
  refine g_aload_n d_La_law_285 rfl ?_
  refine g_iload d_La_law_286 rfl ?_
  refine g_iconst (v := nI 1) d_La_law_288 (by decide) ?_
  refine g_iadd d_La_law_289 ?_
  refine g_eqi (nI_add _ _) ?_
  refine g_sald (6 * t + 1) hXs rfl (by omega) (by omega) d_La_law_290 ?_
  refine g_aload_n d_La_law_291 rfl ?_
  refine g_iload d_La_law_292 rfl ?_
  refine g_iconst (v := nI 2) d_La_law_294 (by decide) ?_
  refine g_iadd d_La_law_295 ?_
  refine g_eqi (nI_add _ _) ?_
  refine g_sald (6 * t + 2) hXs rfl (by omega) (by omega) d_La_law_296 ?_
  refine g_callSX (np := 3) hX w_659 w_0 w_661 ⟨by decide, by decide⟩ (by decide +kernel) (by decide) w_660 hCX (by omega) rfl (by omega) (by omega) rfl (Nat.le_of_ble_eq_true rfl) d_La_law_297 ?_
  rintro v N1 M1 hp
  obtain ⟨kc, rfl, hk3, hN1, hN2, ⟨fs1, hobj1⟩, Pm, hcm, hpm⟩ := hP _ _ _ hp
  refine g_istore d_La_law_300 (by decide) ?_
  refine g_aload_n d_La_law_302 rfl ?_
  refine g_aload_n d_La_law_303 rfl ?_
  refine g_iload d_La_law_304 rfl ?_
  refine g_iconst (v := nI 1) d_La_law_306 (by decide) ?_
  refine g_iadd d_La_law_307 ?_
  refine g_eqi (nI_add _ _) ?_
  refine g_sald (6 * t + 1) hXs rfl (by omega) (by omega) d_La_law_308 ?_
  refine g_aload_n d_La_law_309 rfl ?_
  refine g_iload d_La_law_310 rfl ?_
  refine g_iconst (v := nI 2) d_La_law_312 (by decide) ?_
  refine g_iadd d_La_law_313 ?_
  refine g_eqi (nI_add _ _) ?_
  refine g_sald (6 * t + 2) hXs rfl (by omega) (by omega) d_La_law_314 ?_
  refine g_callV s_La_91 sv_Mo_swap (by assumption) rfl (hcm) (by omega) rfl (by omega) (by omega) rfl (Nat.le_of_ble_eq_true rfl) d_La_law_315 ?_
  rintro w N2 M2 hw
  obtain ⟨rfl, zb, fo2, tn2, ts2, mm2, rr2, gn2, gs2, hw1, hOA, hOM, ho2, hval⟩ := hpm _ _ _ hw
  obtain ⟨⟨rc, pl, fa, hobj2⟩, -⟩ := id hOM
  have hw2 : w = none := hw1
  subst hw2
  refine g_aload_n d_La_law_318 rfl ?_
  refine g_callV s_La_78 sv_Mo_thrown (by assumption) rfl (g_of_val (k_Mo_thrown hobj2)) (by omega) rfl (by omega) (by omega) rfl (Nat.le_of_ble_eq_true rfl) d_La_law_319 ?_
  rintro _ _ _ ⟨rfl, rfl, rfl⟩
  refine g_iload d_La_law_322 rfl ?_
  refine g_icmpN_eq (tgt := 329) d_La_law_324 (by decide) (by omega) (by omega) (fun hb_324 => ?_) (fun hb_324 => ?_)
  rotate_left
  · exact absurd rfl hb_324
  refine g_goto (tgt := 1233) d_La_law_329 (by decide) ?_
  refine g_iinc (v := nI (6 * (t + 1))) d_La_law_1233 rfl (by rw [show Int32.ofInt 6 = nI 6 from rfl, nI_add, Nat.mul_succ]) (by decide) ?_
  refine g_goto (tgt := 23) d_La_law_1236 (by decide) ?_
  exact ih _ M2 _ _ _ tn2 ts2 mm2 rr2 gn2 gs2 fo2 _ _ hOA hOM ho2 (by omega) (by omega) (by omega)
theorem law_rules {tb : List ExceptionTableEntry} {Γ : gT} {b B nn t N k n tn : Nat} {M : gM} {th : Int32} {ts mm : Nat → Nat} {rr : Nat → Nat → Rl} {gn : Nat} {gs : Nat → Nat} {fo : Nat → Int64} {y5 y6 : Option Value} {xs : Nat → Int32} (hX : g_X (g_s Γ)) (hXs : va_X b nn xs (g_s Γ) (g_h0 E)) (hnn : nn ≤ 3072) (ht : 6 * t + 6 ≤ nn)
    (ih : ∀ (N : Nat) (M : gM) (k n : Nat) (th : Int32) (tn : Nat) (ts mm : Nat → Nat) (rr : Nat → Nat → Rl) (gn : Nat) (gs : Nat → Nat) (fo : Nat → Int64) (y5 y6 : Option Value), OA E M B tn ts mm rr gn gs → OM E M (B + 152) th tn ts mm rr gn gs → M (B + 165) = some (g_la E 1 fo) → B + 166 ≤ N → k ≤ 200 + (t + 1) → n ≤ 30000 + 6 * (t + 1) → G l E y_La_law code 7 ret tb 840 (g_ret (fun v _ _ => v = some (.int 1))) 601024 7293034 Γ 23 [some (.ref b), some (.ref B), some (.ref (B + 152)), some (.ref (B + 165)), some (.int (nI (6 * (t + 1)))), y5, y6] [] N M k n)
    (h : OA E M B tn ts mm rr gn gs) (hm : OM E M (B + 152) th tn ts mm rr gn gs) (ho : M (B + 165) = some (g_la E 1 fo)) (hN : B + 166 ≤ N) (hk : k ≤ 200 + t) (hn : n ≤ 30000 + 6 * t) : G l E y_La_law code 7 ret tb 840 (g_ret (fun v _ _ => v = some (.int 1))) 601024 7293034 Γ 332 [some (.ref b), some (.ref B), some (.ref (B + 152)), some (.ref (B + 165)), some (.int (nI (6 * t))), y5, y6] [] N M k n := by
  obtain ⟨P, hCX, hP⟩ := j_rules (l := l) h hm ho hN (xs (6 * t + 1))
  refine g_aload_n d_La_law_332 rfl ?_
  refine g_aload_n d_La_law_333 rfl ?_
  refine g_iload d_La_law_334 rfl ?_
  refine g_iconst (v := nI 1) d_La_law_336 (by decide) ?_
  refine g_iadd d_La_law_337 ?_
  refine g_eqi (nI_add _ _) ?_
  refine g_sald (6 * t + 1) hXs rfl (by omega) (by omega) d_La_law_338 ?_
  refine g_aload_n d_La_law_339 rfl ?_
  refine g_callSX (np := 3) hX w_667 w_0 w_669 ⟨by decide, by decide⟩ (by decide +kernel) (by decide) w_668 hCX (by omega) rfl (by omega) (by omega) rfl (Nat.le_of_ble_eq_true rfl) d_La_law_340 ?_
  rintro v N1 M1 hp
  obtain ⟨kc, rfl, hk3, hN1, hN2, ⟨fs1, hobj1⟩, Pm, hcm, hpm⟩ := hP _ _ _ hp
  refine g_istore d_La_law_343 (by decide) ?_
  refine g_aload_n d_La_law_345 rfl ?_
  refine g_aload_n d_La_law_346 rfl ?_
  refine g_iload d_La_law_347 rfl ?_
  refine g_iconst (v := nI 1) d_La_law_349 (by decide) ?_
  refine g_iadd d_La_law_350 ?_
  refine g_eqi (nI_add _ _) ?_
  refine g_sald (6 * t + 1) hXs rfl (by omega) (by omega) d_La_law_351 ?_
  refine g_callV s_La_94 sv_Mo_rules (by assumption) rfl (hcm) (by omega) rfl (by omega) (by omega) rfl (Nat.le_of_ble_eq_true rfl) d_La_law_352 ?_
  rintro w N2 M2 hw
  obtain ⟨rfl, zb, fo2, tn2, ts2, mm2, rr2, gn2, gs2, hw1, hOA, hOM, ho2, hval⟩ := hpm _ _ _ hw
  obtain ⟨⟨rc, pl, fa, hobj2⟩, -⟩ := id hOM
  have hw2 : w = some (.int zb) := hw1
  subst hw2
  refine g_istore d_La_law_355 (by decide) ?_
  refine g_aload_n d_La_law_357 rfl ?_
  refine g_callV s_La_78 sv_Mo_thrown (by assumption) rfl (g_of_val (k_Mo_thrown hobj2)) (by omega) rfl (by omega) (by omega) rfl (Nat.le_of_ble_eq_true rfl) d_La_law_358 ?_
  rintro _ _ _ ⟨rfl, rfl, rfl⟩
  refine g_iload d_La_law_361 rfl ?_
  refine g_icmpN_eq (tgt := 368) d_La_law_363 (by decide) (by omega) (by omega) (fun hb_363 => ?_) (fun hb_363 => ?_)
  rotate_left
  · exact absurd rfl hb_363
  refine g_iload d_La_law_368 rfl ?_
  first | refine g_ifB_ne (tgt := 385) d_La_law_370 (by decide) (fun hb_370 => ?_) (fun hb_370 => ?_) | refine g_ifN_ne (tgt := 385) d_La_law_370 (by decide) (by omega) (fun hb_370 => ?_) (fun hb_370 => ?_)
  · refine g_goto (tgt := 1233) d_La_law_385 (by decide) ?_
    refine g_iinc (v := nI (6 * (t + 1))) d_La_law_1233 rfl (by rw [show Int32.ofInt 6 = nI 6 from rfl, nI_add, Nat.mul_succ]) (by decide) ?_
    refine g_goto (tgt := 23) d_La_law_1236 (by decide) ?_
    exact ih _ M2 _ _ _ tn2 ts2 mm2 rr2 gn2 gs2 fo2 _ _ hOA hOM ho2 (by omega) (by omega) (by omega)
  · refine g_aload_n d_La_law_373 rfl ?_
    refine g_iconst (v := nI 0) d_La_law_374 (by decide) ?_
    refine g_lald _ (by assumption) rfl (by omega) (by decide) d_La_law_375 ?_
    refine g_iload d_La_law_376 rfl ?_
    refine g_i2l d_La_law_378 rfl ?_
    refine g_lcmp d_La_law_379 ?_
    rw [hval hb_370 rfl]
    refine g_if_eq (tgt := 385) d_La_law_380 (by decide) (fun _ => ?_) (fun hb => absurd (lg_self _) hb)
    refine g_goto (tgt := 1233) d_La_law_385 (by decide) ?_
    refine g_iinc (v := nI (6 * (t + 1))) d_La_law_1233 rfl (by rw [show Int32.ofInt 6 = nI 6 from rfl, nI_add, Nat.mul_succ]) (by decide) ?_
    refine g_goto (tgt := 23) d_La_law_1236 (by decide) ?_
    exact ih _ M2 _ _ _ tn2 ts2 mm2 rr2 gn2 gs2 fo2 _ _ hOA hOM ho2 (by omega) (by omega) (by omega)
theorem law_rule {tb : List ExceptionTableEntry} {Γ : gT} {b B nn t N k n tn : Nat} {M : gM} {th : Int32} {ts mm : Nat → Nat} {rr : Nat → Nat → Rl} {gn : Nat} {gs : Nat → Nat} {fo : Nat → Int64} {y5 y6 : Option Value} {xs : Nat → Int32} (hX : g_X (g_s Γ)) (hXs : va_X b nn xs (g_s Γ) (g_h0 E)) (hnn : nn ≤ 3072) (ht : 6 * t + 6 ≤ nn)
    (ih : ∀ (N : Nat) (M : gM) (k n : Nat) (th : Int32) (tn : Nat) (ts mm : Nat → Nat) (rr : Nat → Nat → Rl) (gn : Nat) (gs : Nat → Nat) (fo : Nat → Int64) (y5 y6 : Option Value), OA E M B tn ts mm rr gn gs → OM E M (B + 152) th tn ts mm rr gn gs → M (B + 165) = some (g_la E 1 fo) → B + 166 ≤ N → k ≤ 200 + (t + 1) → n ≤ 30000 + 6 * (t + 1) → G l E y_La_law code 7 ret tb 840 (g_ret (fun v _ _ => v = some (.int 1))) 601024 7293034 Γ 23 [some (.ref b), some (.ref B), some (.ref (B + 152)), some (.ref (B + 165)), some (.int (nI (6 * (t + 1)))), y5, y6] [] N M k n)
    (h : OA E M B tn ts mm rr gn gs) (hm : OM E M (B + 152) th tn ts mm rr gn gs) (ho : M (B + 165) = some (g_la E 1 fo)) (hN : B + 166 ≤ N) (hk : k ≤ 200 + t) (hn : n ≤ 30000 + 6 * t) : G l E y_La_law code 7 ret tb 840 (g_ret (fun v _ _ => v = some (.int 1))) 601024 7293034 Γ 388 [some (.ref b), some (.ref B), some (.ref (B + 152)), some (.ref (B + 165)), some (.int (nI (6 * t))), y5, y6] [] N M k n := by
  obtain ⟨P, hCX, hP⟩ := j_rule (l := l) h hm ho hN (xs (6 * t + 1)) (xs (6 * t + 2)) (xs (6 * t + 3))
  refine g_aload_n d_La_law_388 rfl ?_
  refine g_aload_n d_La_law_389 rfl ?_
  refine g_iload d_La_law_390 rfl ?_
  refine g_iconst (v := nI 1) d_La_law_392 (by decide) ?_
  refine g_iadd d_La_law_393 ?_
  refine g_eqi (nI_add _ _) ?_
  refine g_sald (6 * t + 1) hXs rfl (by omega) (by omega) d_La_law_394 ?_
  refine g_aload_n d_La_law_395 rfl ?_
  refine g_iload d_La_law_396 rfl ?_
  refine g_iconst (v := nI 2) d_La_law_398 (by decide) ?_
  refine g_iadd d_La_law_399 ?_
  refine g_eqi (nI_add _ _) ?_
  refine g_sald (6 * t + 2) hXs rfl (by omega) (by omega) d_La_law_400 ?_
  refine g_aload_n d_La_law_401 rfl ?_
  refine g_iload d_La_law_402 rfl ?_
  refine g_iconst (v := nI 3) d_La_law_404 (by decide) ?_
  refine g_iadd d_La_law_405 ?_
  refine g_eqi (nI_add _ _) ?_
  refine g_sald (6 * t + 3) hXs rfl (by omega) (by omega) d_La_law_406 ?_
  refine g_aload_n d_La_law_407 rfl ?_
  refine g_callSX (np := 5) hX w_675 w_0 w_677 ⟨by decide, by decide⟩ (by decide +kernel) (by decide) w_676 hCX (by omega) rfl (by omega) (by omega) rfl (Nat.le_of_ble_eq_true rfl) d_La_law_408 ?_
  rintro v N1 M1 hp
  obtain ⟨kc, rfl, hk3, hN1, hN2, ⟨fs1, hobj1⟩, Pm, hcm, hpm⟩ := hP _ _ _ hp
  refine g_istore d_La_law_411 (by decide) ?_
  refine g_aload_n d_La_law_413 rfl ?_
  refine g_aload_n d_La_law_414 rfl ?_
  refine g_iload d_La_law_415 rfl ?_
  refine g_iconst (v := nI 1) d_La_law_417 (by decide) ?_
  refine g_iadd d_La_law_418 ?_
  refine g_eqi (nI_add _ _) ?_
  refine g_sald (6 * t + 1) hXs rfl (by omega) (by omega) d_La_law_419 ?_
  refine g_aload_n d_La_law_420 rfl ?_
  refine g_iload d_La_law_421 rfl ?_
  refine g_iconst (v := nI 2) d_La_law_423 (by decide) ?_
  refine g_iadd d_La_law_424 ?_
  refine g_eqi (nI_add _ _) ?_
  refine g_sald (6 * t + 2) hXs rfl (by omega) (by omega) d_La_law_425 ?_
  refine g_aload_n d_La_law_426 rfl ?_
  refine g_iload d_La_law_427 rfl ?_
  refine g_iconst (v := nI 3) d_La_law_429 (by decide) ?_
  refine g_iadd d_La_law_430 ?_
  refine g_eqi (nI_add _ _) ?_
  refine g_sald (6 * t + 3) hXs rfl (by omega) (by omega) d_La_law_431 ?_
  refine g_callV s_La_98 sv_Mo_rule (by assumption) rfl (hcm) (by omega) rfl (by omega) (by omega) rfl (Nat.le_of_ble_eq_true rfl) d_La_law_432 ?_
  rintro w N2 M2 hw
  obtain ⟨rfl, zb, fo2, tn2, ts2, mm2, rr2, gn2, gs2, hw1, hOA, hOM, ho2, hval⟩ := hpm _ _ _ hw
  obtain ⟨⟨rc, pl, fa, hobj2⟩, -⟩ := id hOM
  have hw2 : w = some (.int zb) := hw1
  subst hw2
  refine g_istore d_La_law_435 (by decide) ?_
  refine g_aload_n d_La_law_437 rfl ?_
  refine g_callV s_La_78 sv_Mo_thrown (by assumption) rfl (g_of_val (k_Mo_thrown hobj2)) (by omega) rfl (by omega) (by omega) rfl (Nat.le_of_ble_eq_true rfl) d_La_law_438 ?_
  rintro _ _ _ ⟨rfl, rfl, rfl⟩
  refine g_iload d_La_law_441 rfl ?_
  refine g_icmpN_eq (tgt := 448) d_La_law_443 (by decide) (by omega) (by omega) (fun hb_443 => ?_) (fun hb_443 => ?_)
  rotate_left
  · exact absurd rfl hb_443
  refine g_iload d_La_law_448 rfl ?_
  first | refine g_ifB_ne (tgt := 465) d_La_law_450 (by decide) (fun hb_450 => ?_) (fun hb_450 => ?_) | refine g_ifN_ne (tgt := 465) d_La_law_450 (by decide) (by omega) (fun hb_450 => ?_) (fun hb_450 => ?_)
  · refine g_goto (tgt := 1233) d_La_law_465 (by decide) ?_
    refine g_iinc (v := nI (6 * (t + 1))) d_La_law_1233 rfl (by rw [show Int32.ofInt 6 = nI 6 from rfl, nI_add, Nat.mul_succ]) (by decide) ?_
    refine g_goto (tgt := 23) d_La_law_1236 (by decide) ?_
    exact ih _ M2 _ _ _ tn2 ts2 mm2 rr2 gn2 gs2 fo2 _ _ hOA hOM ho2 (by omega) (by omega) (by omega)
  · refine g_aload_n d_La_law_453 rfl ?_
    refine g_iconst (v := nI 0) d_La_law_454 (by decide) ?_
    refine g_lald _ (by assumption) rfl (by omega) (by decide) d_La_law_455 ?_
    refine g_iload d_La_law_456 rfl ?_
    refine g_i2l d_La_law_458 rfl ?_
    refine g_lcmp d_La_law_459 ?_
    rw [hval hb_450 rfl]
    refine g_if_eq (tgt := 465) d_La_law_460 (by decide) (fun _ => ?_) (fun hb => absurd (lg_self _) hb)
    refine g_goto (tgt := 1233) d_La_law_465 (by decide) ?_
    refine g_iinc (v := nI (6 * (t + 1))) d_La_law_1233 rfl (by rw [show Int32.ofInt 6 = nI 6 from rfl, nI_add, Nat.mul_succ]) (by decide) ?_
    refine g_goto (tgt := 23) d_La_law_1236 (by decide) ?_
    exact ih _ M2 _ _ _ tn2 ts2 mm2 rr2 gn2 gs2 fo2 _ _ hOA hOM ho2 (by omega) (by omega) (by omega)
theorem law_verdict {tb : List ExceptionTableEntry} {Γ : gT} {b B nn t N k n tn : Nat} {M : gM} {th : Int32} {ts mm : Nat → Nat} {rr : Nat → Nat → Rl} {gn : Nat} {gs : Nat → Nat} {fo : Nat → Int64} {y5 y6 : Option Value} {xs : Nat → Int32} (hX : g_X (g_s Γ)) (hXs : va_X b nn xs (g_s Γ) (g_h0 E)) (hnn : nn ≤ 3072) (ht : 6 * t + 6 ≤ nn)
    (ih : ∀ (N : Nat) (M : gM) (k n : Nat) (th : Int32) (tn : Nat) (ts mm : Nat → Nat) (rr : Nat → Nat → Rl) (gn : Nat) (gs : Nat → Nat) (fo : Nat → Int64) (y5 y6 : Option Value), OA E M B tn ts mm rr gn gs → OM E M (B + 152) th tn ts mm rr gn gs → M (B + 165) = some (g_la E 1 fo) → B + 166 ≤ N → k ≤ 200 + (t + 1) → n ≤ 30000 + 6 * (t + 1) → G l E y_La_law code 7 ret tb 840 (g_ret (fun v _ _ => v = some (.int 1))) 601024 7293034 Γ 23 [some (.ref b), some (.ref B), some (.ref (B + 152)), some (.ref (B + 165)), some (.int (nI (6 * (t + 1)))), y5, y6] [] N M k n)
    (h : OA E M B tn ts mm rr gn gs) (hm : OM E M (B + 152) th tn ts mm rr gn gs) (ho : M (B + 165) = some (g_la E 1 fo)) (hN : B + 166 ≤ N) (hk : k ≤ 200 + t) (hn : n ≤ 30000 + 6 * t) : G l E y_La_law code 7 ret tb 840 (g_ret (fun v _ _ => v = some (.int 1))) 601024 7293034 Γ 468 [some (.ref b), some (.ref B), some (.ref (B + 152)), some (.ref (B + 165)), some (.int (nI (6 * t))), y5, y6] [] N M k n := by
  obtain ⟨P, hCX, hP⟩ := j_verdict (l := l) h hm ho hN (xs (6 * t + 1)) (xs (6 * t + 2)) (xs (6 * t + 3)) (xs (6 * t + 4)) (xs (6 * t + 5))
  refine g_aload_n d_La_law_468 rfl ?_
  refine g_aload_n d_La_law_469 rfl ?_
  refine g_iload d_La_law_470 rfl ?_
  refine g_iconst (v := nI 1) d_La_law_472 (by decide) ?_
  refine g_iadd d_La_law_473 ?_
  refine g_eqi (nI_add _ _) ?_
  refine g_sald (6 * t + 1) hXs rfl (by omega) (by omega) d_La_law_474 ?_
  refine g_aload_n d_La_law_475 rfl ?_
  refine g_iload d_La_law_476 rfl ?_
  refine g_iconst (v := nI 2) d_La_law_478 (by decide) ?_
  refine g_iadd d_La_law_479 ?_
  refine g_eqi (nI_add _ _) ?_
  refine g_sald (6 * t + 2) hXs rfl (by omega) (by omega) d_La_law_480 ?_
  refine g_aload_n d_La_law_481 rfl ?_
  refine g_iload d_La_law_482 rfl ?_
  refine g_iconst (v := nI 3) d_La_law_484 (by decide) ?_
  refine g_iadd d_La_law_485 ?_
  refine g_eqi (nI_add _ _) ?_
  refine g_sald (6 * t + 3) hXs rfl (by omega) (by omega) d_La_law_486 ?_
  refine g_aload_n d_La_law_487 rfl ?_
  refine g_iload d_La_law_488 rfl ?_
  refine g_iconst (v := nI 4) d_La_law_490 (by decide) ?_
  refine g_iadd d_La_law_491 ?_
  refine g_eqi (nI_add _ _) ?_
  refine g_sald (6 * t + 4) hXs rfl (by omega) (by omega) d_La_law_492 ?_
  refine g_aload_n d_La_law_493 rfl ?_
  refine g_iload d_La_law_494 rfl ?_
  refine g_iconst (v := nI 5) d_La_law_496 (by decide) ?_
  refine g_iadd d_La_law_497 ?_
  refine g_eqi (nI_add _ _) ?_
  refine g_sald (6 * t + 5) hXs rfl (by omega) (by omega) d_La_law_498 ?_
  refine g_aload_n d_La_law_499 rfl ?_
  refine g_callSX (np := 7) hX w_688 w_0 w_690 ⟨by decide, by decide⟩ (by decide +kernel) (by decide) w_689 hCX (by omega) rfl (by omega) (by omega) rfl (Nat.le_of_ble_eq_true rfl) d_La_law_500 ?_
  rintro v N1 M1 hp
  obtain ⟨kc, rfl, hk3, hN1, hN2, ⟨fs1, hobj1⟩, Pm, hcm, hpm⟩ := hP _ _ _ hp
  refine g_istore d_La_law_503 (by decide) ?_
  refine g_aload_n d_La_law_505 rfl ?_
  refine g_aload_n d_La_law_506 rfl ?_
  refine g_iload d_La_law_507 rfl ?_
  refine g_iconst (v := nI 1) d_La_law_509 (by decide) ?_
  refine g_iadd d_La_law_510 ?_
  refine g_eqi (nI_add _ _) ?_
  refine g_sald (6 * t + 1) hXs rfl (by omega) (by omega) d_La_law_511 ?_
  refine g_aload_n d_La_law_512 rfl ?_
  refine g_iload d_La_law_513 rfl ?_
  refine g_iconst (v := nI 2) d_La_law_515 (by decide) ?_
  refine g_iadd d_La_law_516 ?_
  refine g_eqi (nI_add _ _) ?_
  refine g_sald (6 * t + 2) hXs rfl (by omega) (by omega) d_La_law_517 ?_
  refine g_aload_n d_La_law_518 rfl ?_
  refine g_iload d_La_law_519 rfl ?_
  refine g_iconst (v := nI 3) d_La_law_521 (by decide) ?_
  refine g_iadd d_La_law_522 ?_
  refine g_eqi (nI_add _ _) ?_
  refine g_sald (6 * t + 3) hXs rfl (by omega) (by omega) d_La_law_523 ?_
  refine g_aload_n d_La_law_524 rfl ?_
  refine g_iload d_La_law_525 rfl ?_
  refine g_iconst (v := nI 4) d_La_law_527 (by decide) ?_
  refine g_iadd d_La_law_528 ?_
  refine g_eqi (nI_add _ _) ?_
  refine g_sald (6 * t + 4) hXs rfl (by omega) (by omega) d_La_law_529 ?_
  refine g_aload_n d_La_law_530 rfl ?_
  refine g_iload d_La_law_531 rfl ?_
  refine g_iconst (v := nI 5) d_La_law_533 (by decide) ?_
  refine g_iadd d_La_law_534 ?_
  refine g_eqi (nI_add _ _) ?_
  refine g_sald (6 * t + 5) hXs rfl (by omega) (by omega) d_La_law_535 ?_
  refine g_callV s_La_102 sv_Mo_verdict (by assumption) rfl (hcm) (by omega) rfl (by omega) (by omega) rfl (Nat.le_of_ble_eq_true rfl) d_La_law_536 ?_
  rintro w N2 M2 hw
  obtain ⟨rfl, zb, fo2, tn2, ts2, mm2, rr2, gn2, gs2, hw1, hOA, hOM, ho2, hval⟩ := hpm _ _ _ hw
  obtain ⟨⟨rc, pl, fa, hobj2⟩, -⟩ := id hOM
  have hw2 : w = some (.int zb) := hw1
  subst hw2
  refine g_istore d_La_law_539 (by decide) ?_
  refine g_aload_n d_La_law_541 rfl ?_
  refine g_callV s_La_78 sv_Mo_thrown (by assumption) rfl (g_of_val (k_Mo_thrown hobj2)) (by omega) rfl (by omega) (by omega) rfl (Nat.le_of_ble_eq_true rfl) d_La_law_542 ?_
  rintro _ _ _ ⟨rfl, rfl, rfl⟩
  refine g_iload d_La_law_545 rfl ?_
  refine g_icmpN_eq (tgt := 552) d_La_law_547 (by decide) (by omega) (by omega) (fun hb_547 => ?_) (fun hb_547 => ?_)
  rotate_left
  · exact absurd rfl hb_547
  refine g_iload d_La_law_552 rfl ?_
  first | refine g_ifB_ne (tgt := 569) d_La_law_554 (by decide) (fun hb_554 => ?_) (fun hb_554 => ?_) | refine g_ifN_ne (tgt := 569) d_La_law_554 (by decide) (by omega) (fun hb_554 => ?_) (fun hb_554 => ?_)
  · refine g_goto (tgt := 1233) d_La_law_569 (by decide) ?_
    refine g_iinc (v := nI (6 * (t + 1))) d_La_law_1233 rfl (by rw [show Int32.ofInt 6 = nI 6 from rfl, nI_add, Nat.mul_succ]) (by decide) ?_
    refine g_goto (tgt := 23) d_La_law_1236 (by decide) ?_
    exact ih _ M2 _ _ _ tn2 ts2 mm2 rr2 gn2 gs2 fo2 _ _ hOA hOM ho2 (by omega) (by omega) (by omega)
  · refine g_aload_n d_La_law_557 rfl ?_
    refine g_iconst (v := nI 0) d_La_law_558 (by decide) ?_
    refine g_lald _ (by assumption) rfl (by omega) (by decide) d_La_law_559 ?_
    refine g_iload d_La_law_560 rfl ?_
    refine g_i2l d_La_law_562 rfl ?_
    refine g_lcmp d_La_law_563 ?_
    rw [hval hb_554 rfl]
    refine g_if_eq (tgt := 569) d_La_law_564 (by decide) (fun _ => ?_) (fun hb => absurd (lg_self _) hb)
    refine g_goto (tgt := 1233) d_La_law_569 (by decide) ?_
    refine g_iinc (v := nI (6 * (t + 1))) d_La_law_1233 rfl (by rw [show Int32.ofInt 6 = nI 6 from rfl, nI_add, Nat.mul_succ]) (by decide) ?_
    refine g_goto (tgt := 23) d_La_law_1236 (by decide) ?_
    exact ih _ M2 _ _ _ tn2 ts2 mm2 rr2 gn2 gs2 fo2 _ _ hOA hOM ho2 (by omega) (by omega) (by omega)
theorem law_first {tb : List ExceptionTableEntry} {Γ : gT} {b B nn t N k n tn : Nat} {M : gM} {th : Int32} {ts mm : Nat → Nat} {rr : Nat → Nat → Rl} {gn : Nat} {gs : Nat → Nat} {fo : Nat → Int64} {y5 y6 : Option Value} {xs : Nat → Int32} (hX : g_X (g_s Γ)) (hXs : va_X b nn xs (g_s Γ) (g_h0 E)) (hnn : nn ≤ 3072) (ht : 6 * t + 6 ≤ nn)
    (ih : ∀ (N : Nat) (M : gM) (k n : Nat) (th : Int32) (tn : Nat) (ts mm : Nat → Nat) (rr : Nat → Nat → Rl) (gn : Nat) (gs : Nat → Nat) (fo : Nat → Int64) (y5 y6 : Option Value), OA E M B tn ts mm rr gn gs → OM E M (B + 152) th tn ts mm rr gn gs → M (B + 165) = some (g_la E 1 fo) → B + 166 ≤ N → k ≤ 200 + (t + 1) → n ≤ 30000 + 6 * (t + 1) → G l E y_La_law code 7 ret tb 840 (g_ret (fun v _ _ => v = some (.int 1))) 601024 7293034 Γ 23 [some (.ref b), some (.ref B), some (.ref (B + 152)), some (.ref (B + 165)), some (.int (nI (6 * (t + 1)))), y5, y6] [] N M k n)
    (h : OA E M B tn ts mm rr gn gs) (hm : OM E M (B + 152) th tn ts mm rr gn gs) (ho : M (B + 165) = some (g_la E 1 fo)) (hN : B + 166 ≤ N) (hk : k ≤ 200 + t) (hn : n ≤ 30000 + 6 * t) : G l E y_La_law code 7 ret tb 840 (g_ret (fun v _ _ => v = some (.int 1))) 601024 7293034 Γ 572 [some (.ref b), some (.ref B), some (.ref (B + 152)), some (.ref (B + 165)), some (.int (nI (6 * t))), y5, y6] [] N M k n := by
  obtain ⟨P, hCX, hP⟩ := j_first (l := l) h hm ho hN (xs (6 * t + 1)) (xs (6 * t + 2)) (xs (6 * t + 3)) (xs (6 * t + 4)) (xs (6 * t + 5))
  refine g_aload_n d_La_law_572 rfl ?_
  refine g_aload_n d_La_law_573 rfl ?_
  refine g_iload d_La_law_574 rfl ?_
  refine g_iconst (v := nI 1) d_La_law_576 (by decide) ?_
  refine g_iadd d_La_law_577 ?_
  refine g_eqi (nI_add _ _) ?_
  refine g_sald (6 * t + 1) hXs rfl (by omega) (by omega) d_La_law_578 ?_
  refine g_aload_n d_La_law_579 rfl ?_
  refine g_iload d_La_law_580 rfl ?_
  refine g_iconst (v := nI 2) d_La_law_582 (by decide) ?_
  refine g_iadd d_La_law_583 ?_
  refine g_eqi (nI_add _ _) ?_
  refine g_sald (6 * t + 2) hXs rfl (by omega) (by omega) d_La_law_584 ?_
  refine g_aload_n d_La_law_585 rfl ?_
  refine g_iload d_La_law_586 rfl ?_
  refine g_iconst (v := nI 3) d_La_law_588 (by decide) ?_
  refine g_iadd d_La_law_589 ?_
  refine g_eqi (nI_add _ _) ?_
  refine g_sald (6 * t + 3) hXs rfl (by omega) (by omega) d_La_law_590 ?_
  refine g_aload_n d_La_law_591 rfl ?_
  refine g_iload d_La_law_592 rfl ?_
  refine g_iconst (v := nI 4) d_La_law_594 (by decide) ?_
  refine g_iadd d_La_law_595 ?_
  refine g_eqi (nI_add _ _) ?_
  refine g_sald (6 * t + 4) hXs rfl (by omega) (by omega) d_La_law_596 ?_
  refine g_aload_n d_La_law_597 rfl ?_
  refine g_iload d_La_law_598 rfl ?_
  refine g_iconst (v := nI 5) d_La_law_600 (by decide) ?_
  refine g_iadd d_La_law_601 ?_
  refine g_eqi (nI_add _ _) ?_
  refine g_sald (6 * t + 5) hXs rfl (by omega) (by omega) d_La_law_602 ?_
  refine g_aload_n d_La_law_603 rfl ?_
  refine g_callSX (np := 7) hX w_724 w_0 w_726 ⟨by decide, by decide⟩ (by decide +kernel) (by decide) w_725 hCX (by omega) rfl (by omega) (by omega) rfl (Nat.le_of_ble_eq_true rfl) d_La_law_604 ?_
  rintro v N1 M1 hp
  obtain ⟨kc, rfl, hk3, hN1, hN2, ⟨fs1, hobj1⟩, Pm, hcm, hpm⟩ := hP _ _ _ hp
  refine g_istore d_La_law_607 (by decide) ?_
  refine g_aload_n d_La_law_609 rfl ?_
  refine g_aload_n d_La_law_610 rfl ?_
  refine g_iload d_La_law_611 rfl ?_
  refine g_iconst (v := nI 1) d_La_law_613 (by decide) ?_
  refine g_iadd d_La_law_614 ?_
  refine g_eqi (nI_add _ _) ?_
  refine g_sald (6 * t + 1) hXs rfl (by omega) (by omega) d_La_law_615 ?_
  refine g_aload_n d_La_law_616 rfl ?_
  refine g_iload d_La_law_617 rfl ?_
  refine g_iconst (v := nI 2) d_La_law_619 (by decide) ?_
  refine g_iadd d_La_law_620 ?_
  refine g_eqi (nI_add _ _) ?_
  refine g_sald (6 * t + 2) hXs rfl (by omega) (by omega) d_La_law_621 ?_
  refine g_aload_n d_La_law_622 rfl ?_
  refine g_iload d_La_law_623 rfl ?_
  refine g_iconst (v := nI 3) d_La_law_625 (by decide) ?_
  refine g_iadd d_La_law_626 ?_
  refine g_eqi (nI_add _ _) ?_
  refine g_sald (6 * t + 3) hXs rfl (by omega) (by omega) d_La_law_627 ?_
  refine g_aload_n d_La_law_628 rfl ?_
  refine g_iload d_La_law_629 rfl ?_
  refine g_iconst (v := nI 4) d_La_law_631 (by decide) ?_
  refine g_iadd d_La_law_632 ?_
  refine g_eqi (nI_add _ _) ?_
  refine g_sald (6 * t + 4) hXs rfl (by omega) (by omega) d_La_law_633 ?_
  refine g_aload_n d_La_law_634 rfl ?_
  refine g_iload d_La_law_635 rfl ?_
  refine g_iconst (v := nI 5) d_La_law_637 (by decide) ?_
  refine g_iadd d_La_law_638 ?_
  refine g_eqi (nI_add _ _) ?_
  refine g_sald (6 * t + 5) hXs rfl (by omega) (by omega) d_La_law_639 ?_
  refine g_callV s_La_105 sv_Mo_first (by assumption) rfl (hcm) (by omega) rfl (by omega) (by omega) rfl (Nat.le_of_ble_eq_true rfl) d_La_law_640 ?_
  rintro w N2 M2 hw
  obtain ⟨rfl, zb, fo2, tn2, ts2, mm2, rr2, gn2, gs2, hw1, hOA, hOM, ho2, hval⟩ := hpm _ _ _ hw
  obtain ⟨⟨rc, pl, fa, hobj2⟩, -⟩ := id hOM
  have hw2 : w = some (.int zb) := hw1
  subst hw2
  refine g_istore d_La_law_643 (by decide) ?_
  refine g_aload_n d_La_law_645 rfl ?_
  refine g_callV s_La_78 sv_Mo_thrown (by assumption) rfl (g_of_val (k_Mo_thrown hobj2)) (by omega) rfl (by omega) (by omega) rfl (Nat.le_of_ble_eq_true rfl) d_La_law_646 ?_
  rintro _ _ _ ⟨rfl, rfl, rfl⟩
  refine g_iload d_La_law_649 rfl ?_
  refine g_icmpN_eq (tgt := 656) d_La_law_651 (by decide) (by omega) (by omega) (fun hb_651 => ?_) (fun hb_651 => ?_)
  rotate_left
  · exact absurd rfl hb_651
  refine g_iload d_La_law_656 rfl ?_
  first | refine g_ifB_ne (tgt := 673) d_La_law_658 (by decide) (fun hb_658 => ?_) (fun hb_658 => ?_) | refine g_ifN_ne (tgt := 673) d_La_law_658 (by decide) (by omega) (fun hb_658 => ?_) (fun hb_658 => ?_)
  · refine g_goto (tgt := 1233) d_La_law_673 (by decide) ?_
    refine g_iinc (v := nI (6 * (t + 1))) d_La_law_1233 rfl (by rw [show Int32.ofInt 6 = nI 6 from rfl, nI_add, Nat.mul_succ]) (by decide) ?_
    refine g_goto (tgt := 23) d_La_law_1236 (by decide) ?_
    exact ih _ M2 _ _ _ tn2 ts2 mm2 rr2 gn2 gs2 fo2 _ _ hOA hOM ho2 (by omega) (by omega) (by omega)
  · refine g_aload_n d_La_law_661 rfl ?_
    refine g_iconst (v := nI 0) d_La_law_662 (by decide) ?_
    refine g_lald _ (by assumption) rfl (by omega) (by decide) d_La_law_663 ?_
    refine g_iload d_La_law_664 rfl ?_
    refine g_i2l d_La_law_666 rfl ?_
    refine g_lcmp d_La_law_667 ?_
    rw [hval hb_658 rfl]
    refine g_if_eq (tgt := 673) d_La_law_668 (by decide) (fun _ => ?_) (fun hb => absurd (lg_self _) hb)
    refine g_goto (tgt := 1233) d_La_law_673 (by decide) ?_
    refine g_iinc (v := nI (6 * (t + 1))) d_La_law_1233 rfl (by rw [show Int32.ofInt 6 = nI 6 from rfl, nI_add, Nat.mul_succ]) (by decide) ?_
    refine g_goto (tgt := 23) d_La_law_1236 (by decide) ?_
    exact ih _ M2 _ _ _ tn2 ts2 mm2 rr2 gn2 gs2 fo2 _ _ hOA hOM ho2 (by omega) (by omega) (by omega)
theorem law_count {tb : List ExceptionTableEntry} {Γ : gT} {b B nn t N k n tn : Nat} {M : gM} {th : Int32} {ts mm : Nat → Nat} {rr : Nat → Nat → Rl} {gn : Nat} {gs : Nat → Nat} {fo : Nat → Int64} {y5 y6 : Option Value} {xs : Nat → Int32} (hX : g_X (g_s Γ)) (hXs : va_X b nn xs (g_s Γ) (g_h0 E)) (hnn : nn ≤ 3072) (ht : 6 * t + 6 ≤ nn)
    (ih : ∀ (N : Nat) (M : gM) (k n : Nat) (th : Int32) (tn : Nat) (ts mm : Nat → Nat) (rr : Nat → Nat → Rl) (gn : Nat) (gs : Nat → Nat) (fo : Nat → Int64) (y5 y6 : Option Value), OA E M B tn ts mm rr gn gs → OM E M (B + 152) th tn ts mm rr gn gs → M (B + 165) = some (g_la E 1 fo) → B + 166 ≤ N → k ≤ 200 + (t + 1) → n ≤ 30000 + 6 * (t + 1) → G l E y_La_law code 7 ret tb 840 (g_ret (fun v _ _ => v = some (.int 1))) 601024 7293034 Γ 23 [some (.ref b), some (.ref B), some (.ref (B + 152)), some (.ref (B + 165)), some (.int (nI (6 * (t + 1)))), y5, y6] [] N M k n)
    (h : OA E M B tn ts mm rr gn gs) (hm : OM E M (B + 152) th tn ts mm rr gn gs) (ho : M (B + 165) = some (g_la E 1 fo)) (hN : B + 166 ≤ N) (hk : k ≤ 200 + t) (hn : n ≤ 30000 + 6 * t) : G l E y_La_law code 7 ret tb 840 (g_ret (fun v _ _ => v = some (.int 1))) 601024 7293034 Γ 676 [some (.ref b), some (.ref B), some (.ref (B + 152)), some (.ref (B + 165)), some (.int (nI (6 * t))), y5, y6] [] N M k n := by
  obtain ⟨P, hCX, hP⟩ := j_count (l := l) h hm ho hN (xs (6 * t + 1)) (xs (6 * t + 2))
  refine g_aload_n d_La_law_676 rfl ?_
  refine g_aload_n d_La_law_677 rfl ?_
  refine g_iload d_La_law_678 rfl ?_
  refine g_iconst (v := nI 1) d_La_law_680 (by decide) ?_
  refine g_iadd d_La_law_681 ?_
  refine g_eqi (nI_add _ _) ?_
  refine g_sald (6 * t + 1) hXs rfl (by omega) (by omega) d_La_law_682 ?_
  refine g_aload_n d_La_law_683 rfl ?_
  refine g_iload d_La_law_684 rfl ?_
  refine g_iconst (v := nI 2) d_La_law_686 (by decide) ?_
  refine g_iadd d_La_law_687 ?_
  refine g_eqi (nI_add _ _) ?_
  refine g_sald (6 * t + 2) hXs rfl (by omega) (by omega) d_La_law_688 ?_
  refine g_aload_n d_La_law_689 rfl ?_
  refine g_callSX (np := 4) hX w_732 w_0 w_734 ⟨by decide, by decide⟩ (by decide +kernel) (by decide) w_733 hCX (by omega) rfl (by omega) (by omega) rfl (Nat.le_of_ble_eq_true rfl) d_La_law_690 ?_
  rintro v N1 M1 hp
  obtain ⟨kc, rfl, hk3, hN1, hN2, ⟨fs1, hobj1⟩, Pm, hcm, hpm⟩ := hP _ _ _ hp
  refine g_istore d_La_law_693 (by decide) ?_
  refine g_aload_n d_La_law_695 rfl ?_
  refine g_aload_n d_La_law_696 rfl ?_
  refine g_iload d_La_law_697 rfl ?_
  refine g_iconst (v := nI 1) d_La_law_699 (by decide) ?_
  refine g_iadd d_La_law_700 ?_
  refine g_eqi (nI_add _ _) ?_
  refine g_sald (6 * t + 1) hXs rfl (by omega) (by omega) d_La_law_701 ?_
  refine g_aload_n d_La_law_702 rfl ?_
  refine g_iload d_La_law_703 rfl ?_
  refine g_iconst (v := nI 2) d_La_law_705 (by decide) ?_
  refine g_iadd d_La_law_706 ?_
  refine g_eqi (nI_add _ _) ?_
  refine g_sald (6 * t + 2) hXs rfl (by omega) (by omega) d_La_law_707 ?_
  refine g_callV s_La_109 sv_Mo_count (by assumption) rfl (hcm) (by omega) rfl (by omega) (by omega) rfl (Nat.le_of_ble_eq_true rfl) d_La_law_708 ?_
  rintro w N2 M2 hw
  obtain ⟨rfl, zb, fo2, tn2, ts2, mm2, rr2, gn2, gs2, hw1, hOA, hOM, ho2, hval⟩ := hpm _ _ _ hw
  obtain ⟨⟨rc, pl, fa, hobj2⟩, -⟩ := id hOM
  have hw2 : w = some (.int zb) := hw1
  subst hw2
  refine g_istore d_La_law_711 (by decide) ?_
  refine g_aload_n d_La_law_713 rfl ?_
  refine g_callV s_La_78 sv_Mo_thrown (by assumption) rfl (g_of_val (k_Mo_thrown hobj2)) (by omega) rfl (by omega) (by omega) rfl (Nat.le_of_ble_eq_true rfl) d_La_law_714 ?_
  rintro _ _ _ ⟨rfl, rfl, rfl⟩
  refine g_iload d_La_law_717 rfl ?_
  refine g_icmpN_eq (tgt := 724) d_La_law_719 (by decide) (by omega) (by omega) (fun hb_719 => ?_) (fun hb_719 => ?_)
  rotate_left
  · exact absurd rfl hb_719
  refine g_iload d_La_law_724 rfl ?_
  first | refine g_ifB_ne (tgt := 741) d_La_law_726 (by decide) (fun hb_726 => ?_) (fun hb_726 => ?_) | refine g_ifN_ne (tgt := 741) d_La_law_726 (by decide) (by omega) (fun hb_726 => ?_) (fun hb_726 => ?_)
  · refine g_goto (tgt := 1233) d_La_law_741 (by decide) ?_
    refine g_iinc (v := nI (6 * (t + 1))) d_La_law_1233 rfl (by rw [show Int32.ofInt 6 = nI 6 from rfl, nI_add, Nat.mul_succ]) (by decide) ?_
    refine g_goto (tgt := 23) d_La_law_1236 (by decide) ?_
    exact ih _ M2 _ _ _ tn2 ts2 mm2 rr2 gn2 gs2 fo2 _ _ hOA hOM ho2 (by omega) (by omega) (by omega)
  · refine g_aload_n d_La_law_729 rfl ?_
    refine g_iconst (v := nI 0) d_La_law_730 (by decide) ?_
    refine g_lald _ (by assumption) rfl (by omega) (by decide) d_La_law_731 ?_
    refine g_iload d_La_law_732 rfl ?_
    refine g_i2l d_La_law_734 rfl ?_
    refine g_lcmp d_La_law_735 ?_
    rw [hval hb_726 rfl]
    refine g_if_eq (tgt := 741) d_La_law_736 (by decide) (fun _ => ?_) (fun hb => absurd (lg_self _) hb)
    refine g_goto (tgt := 1233) d_La_law_741 (by decide) ?_
    refine g_iinc (v := nI (6 * (t + 1))) d_La_law_1233 rfl (by rw [show Int32.ofInt 6 = nI 6 from rfl, nI_add, Nat.mul_succ]) (by decide) ?_
    refine g_goto (tgt := 23) d_La_law_1236 (by decide) ?_
    exact ih _ M2 _ _ _ tn2 ts2 mm2 rr2 gn2 gs2 fo2 _ _ hOA hOM ho2 (by omega) (by omega) (by omega)
theorem law_nodes {tb : List ExceptionTableEntry} {Γ : gT} {b B nn t N k n tn : Nat} {M : gM} {th : Int32} {ts mm : Nat → Nat} {rr : Nat → Nat → Rl} {gn : Nat} {gs : Nat → Nat} {fo : Nat → Int64} {y5 y6 : Option Value} {xs : Nat → Int32} (hX : g_X (g_s Γ)) (hXs : va_X b nn xs (g_s Γ) (g_h0 E)) (hnn : nn ≤ 3072) (ht : 6 * t + 6 ≤ nn)
    (ih : ∀ (N : Nat) (M : gM) (k n : Nat) (th : Int32) (tn : Nat) (ts mm : Nat → Nat) (rr : Nat → Nat → Rl) (gn : Nat) (gs : Nat → Nat) (fo : Nat → Int64) (y5 y6 : Option Value), OA E M B tn ts mm rr gn gs → OM E M (B + 152) th tn ts mm rr gn gs → M (B + 165) = some (g_la E 1 fo) → B + 166 ≤ N → k ≤ 200 + (t + 1) → n ≤ 30000 + 6 * (t + 1) → G l E y_La_law code 7 ret tb 840 (g_ret (fun v _ _ => v = some (.int 1))) 601024 7293034 Γ 23 [some (.ref b), some (.ref B), some (.ref (B + 152)), some (.ref (B + 165)), some (.int (nI (6 * (t + 1)))), y5, y6] [] N M k n)
    (h : OA E M B tn ts mm rr gn gs) (hm : OM E M (B + 152) th tn ts mm rr gn gs) (ho : M (B + 165) = some (g_la E 1 fo)) (hN : B + 166 ≤ N) (hk : k ≤ 200 + t) (hn : n ≤ 30000 + 6 * t) : G l E y_La_law code 7 ret tb 840 (g_ret (fun v _ _ => v = some (.int 1))) 601024 7293034 Γ 744 [some (.ref b), some (.ref B), some (.ref (B + 152)), some (.ref (B + 165)), some (.int (nI (6 * t))), y5, y6] [] N M k n := by
  obtain ⟨P, hCX, hP⟩ := j_nodes (l := l) h hm ho hN (xs (6 * t + 1)) (xs (6 * t + 2))
  refine g_aload_n d_La_law_744 rfl ?_
  refine g_aload_n d_La_law_745 rfl ?_
  refine g_iload d_La_law_746 rfl ?_
  refine g_iconst (v := nI 1) d_La_law_748 (by decide) ?_
  refine g_iadd d_La_law_749 ?_
  refine g_eqi (nI_add _ _) ?_
  refine g_sald (6 * t + 1) hXs rfl (by omega) (by omega) d_La_law_750 ?_
  refine g_aload_n d_La_law_751 rfl ?_
  refine g_iload d_La_law_752 rfl ?_
  refine g_iconst (v := nI 2) d_La_law_754 (by decide) ?_
  refine g_iadd d_La_law_755 ?_
  refine g_eqi (nI_add _ _) ?_
  refine g_sald (6 * t + 2) hXs rfl (by omega) (by omega) d_La_law_756 ?_
  refine g_aload_n d_La_law_757 rfl ?_
  refine g_callSX (np := 4) hX w_769 w_0 w_771 ⟨by decide, by decide⟩ (by decide +kernel) (by decide) w_770 hCX (by omega) rfl (by omega) (by omega) rfl (Nat.le_of_ble_eq_true rfl) d_La_law_758 ?_
  rintro v N1 M1 hp
  obtain ⟨kc, rfl, hk3, hN1, hN2, ⟨fs1, hobj1⟩, Pm, hcm, hpm⟩ := hP _ _ _ hp
  refine g_istore d_La_law_761 (by decide) ?_
  refine g_aload_n d_La_law_763 rfl ?_
  refine g_aload_n d_La_law_764 rfl ?_
  refine g_iload d_La_law_765 rfl ?_
  refine g_iconst (v := nI 1) d_La_law_767 (by decide) ?_
  refine g_iadd d_La_law_768 ?_
  refine g_eqi (nI_add _ _) ?_
  refine g_sald (6 * t + 1) hXs rfl (by omega) (by omega) d_La_law_769 ?_
  refine g_aload_n d_La_law_770 rfl ?_
  refine g_iload d_La_law_771 rfl ?_
  refine g_iconst (v := nI 2) d_La_law_773 (by decide) ?_
  refine g_iadd d_La_law_774 ?_
  refine g_eqi (nI_add _ _) ?_
  refine g_sald (6 * t + 2) hXs rfl (by omega) (by omega) d_La_law_775 ?_
  refine g_callV s_La_112 sv_Mo_nodes (by assumption) rfl (hcm) (by omega) rfl (by omega) (by omega) rfl (Nat.le_of_ble_eq_true rfl) d_La_law_776 ?_
  rintro w N2 M2 hw
  obtain ⟨rfl, zb, fo2, tn2, ts2, mm2, rr2, gn2, gs2, hw1, hOA, hOM, ho2, hval⟩ := hpm _ _ _ hw
  obtain ⟨⟨rc, pl, fa, hobj2⟩, -⟩ := id hOM
  have hw2 : w = some (.int zb) := hw1
  subst hw2
  refine g_istore d_La_law_779 (by decide) ?_
  refine g_aload_n d_La_law_781 rfl ?_
  refine g_callV s_La_78 sv_Mo_thrown (by assumption) rfl (g_of_val (k_Mo_thrown hobj2)) (by omega) rfl (by omega) (by omega) rfl (Nat.le_of_ble_eq_true rfl) d_La_law_782 ?_
  rintro _ _ _ ⟨rfl, rfl, rfl⟩
  refine g_iload d_La_law_785 rfl ?_
  refine g_icmpN_eq (tgt := 792) d_La_law_787 (by decide) (by omega) (by omega) (fun hb_787 => ?_) (fun hb_787 => ?_)
  rotate_left
  · exact absurd rfl hb_787
  refine g_iload d_La_law_792 rfl ?_
  first | refine g_ifB_ne (tgt := 809) d_La_law_794 (by decide) (fun hb_794 => ?_) (fun hb_794 => ?_) | refine g_ifN_ne (tgt := 809) d_La_law_794 (by decide) (by omega) (fun hb_794 => ?_) (fun hb_794 => ?_)
  · refine g_goto (tgt := 1233) d_La_law_809 (by decide) ?_
    refine g_iinc (v := nI (6 * (t + 1))) d_La_law_1233 rfl (by rw [show Int32.ofInt 6 = nI 6 from rfl, nI_add, Nat.mul_succ]) (by decide) ?_
    refine g_goto (tgt := 23) d_La_law_1236 (by decide) ?_
    exact ih _ M2 _ _ _ tn2 ts2 mm2 rr2 gn2 gs2 fo2 _ _ hOA hOM ho2 (by omega) (by omega) (by omega)
  · refine g_aload_n d_La_law_797 rfl ?_
    refine g_iconst (v := nI 0) d_La_law_798 (by decide) ?_
    refine g_lald _ (by assumption) rfl (by omega) (by decide) d_La_law_799 ?_
    refine g_iload d_La_law_800 rfl ?_
    refine g_i2l d_La_law_802 rfl ?_
    refine g_lcmp d_La_law_803 ?_
    rw [hval hb_794 rfl]
    refine g_if_eq (tgt := 809) d_La_law_804 (by decide) (fun _ => ?_) (fun hb => absurd (lg_self _) hb)
    refine g_goto (tgt := 1233) d_La_law_809 (by decide) ?_
    refine g_iinc (v := nI (6 * (t + 1))) d_La_law_1233 rfl (by rw [show Int32.ofInt 6 = nI 6 from rfl, nI_add, Nat.mul_succ]) (by decide) ?_
    refine g_goto (tgt := 23) d_La_law_1236 (by decide) ?_
    exact ih _ M2 _ _ _ tn2 ts2 mm2 rr2 gn2 gs2 fo2 _ _ hOA hOM ho2 (by omega) (by omega) (by omega)
theorem law_edges {tb : List ExceptionTableEntry} {Γ : gT} {b B nn t N k n tn : Nat} {M : gM} {th : Int32} {ts mm : Nat → Nat} {rr : Nat → Nat → Rl} {gn : Nat} {gs : Nat → Nat} {fo : Nat → Int64} {y5 y6 : Option Value} {xs : Nat → Int32} (hX : g_X (g_s Γ)) (hXs : va_X b nn xs (g_s Γ) (g_h0 E)) (hnn : nn ≤ 3072) (ht : 6 * t + 6 ≤ nn)
    (ih : ∀ (N : Nat) (M : gM) (k n : Nat) (th : Int32) (tn : Nat) (ts mm : Nat → Nat) (rr : Nat → Nat → Rl) (gn : Nat) (gs : Nat → Nat) (fo : Nat → Int64) (y5 y6 : Option Value), OA E M B tn ts mm rr gn gs → OM E M (B + 152) th tn ts mm rr gn gs → M (B + 165) = some (g_la E 1 fo) → B + 166 ≤ N → k ≤ 200 + (t + 1) → n ≤ 30000 + 6 * (t + 1) → G l E y_La_law code 7 ret tb 840 (g_ret (fun v _ _ => v = some (.int 1))) 601024 7293034 Γ 23 [some (.ref b), some (.ref B), some (.ref (B + 152)), some (.ref (B + 165)), some (.int (nI (6 * (t + 1)))), y5, y6] [] N M k n)
    (h : OA E M B tn ts mm rr gn gs) (hm : OM E M (B + 152) th tn ts mm rr gn gs) (ho : M (B + 165) = some (g_la E 1 fo)) (hN : B + 166 ≤ N) (hk : k ≤ 200 + t) (hn : n ≤ 30000 + 6 * t) : G l E y_La_law code 7 ret tb 840 (g_ret (fun v _ _ => v = some (.int 1))) 601024 7293034 Γ 812 [some (.ref b), some (.ref B), some (.ref (B + 152)), some (.ref (B + 165)), some (.int (nI (6 * t))), y5, y6] [] N M k n := by
  obtain ⟨P, hCX, hP⟩ := j_edges (l := l) h hm ho hN (xs (6 * t + 1))
  refine g_aload_n d_La_law_812 rfl ?_
  refine g_aload_n d_La_law_813 rfl ?_
  refine g_iload d_La_law_814 rfl ?_
  refine g_iconst (v := nI 1) d_La_law_816 (by decide) ?_
  refine g_iadd d_La_law_817 ?_
  refine g_eqi (nI_add _ _) ?_
  refine g_sald (6 * t + 1) hXs rfl (by omega) (by omega) d_La_law_818 ?_
  refine g_aload_n d_La_law_819 rfl ?_
  refine g_callSX (np := 3) hX w_808 w_0 w_810 ⟨by decide, by decide⟩ (by decide +kernel) (by decide) w_809 hCX (by omega) rfl (by omega) (by omega) rfl (Nat.le_of_ble_eq_true rfl) d_La_law_820 ?_
  rintro v N1 M1 hp
  obtain ⟨kc, rfl, hk3, hN1, hN2, ⟨fs1, hobj1⟩, Pm, hcm, hpm⟩ := hP _ _ _ hp
  refine g_istore d_La_law_823 (by decide) ?_
  refine g_aload_n d_La_law_825 rfl ?_
  refine g_aload_n d_La_law_826 rfl ?_
  refine g_iload d_La_law_827 rfl ?_
  refine g_iconst (v := nI 1) d_La_law_829 (by decide) ?_
  refine g_iadd d_La_law_830 ?_
  refine g_eqi (nI_add _ _) ?_
  refine g_sald (6 * t + 1) hXs rfl (by omega) (by omega) d_La_law_831 ?_
  refine g_callV s_La_115 sv_Mo_edges (by assumption) rfl (hcm) (by omega) rfl (by omega) (by omega) rfl (Nat.le_of_ble_eq_true rfl) d_La_law_832 ?_
  rintro w N2 M2 hw
  obtain ⟨rfl, zb, fo2, tn2, ts2, mm2, rr2, gn2, gs2, hw1, hOA, hOM, ho2, hval⟩ := hpm _ _ _ hw
  obtain ⟨⟨rc, pl, fa, hobj2⟩, -⟩ := id hOM
  have hw2 : w = some (.int zb) := hw1
  subst hw2
  refine g_istore d_La_law_835 (by decide) ?_
  refine g_aload_n d_La_law_837 rfl ?_
  refine g_callV s_La_78 sv_Mo_thrown (by assumption) rfl (g_of_val (k_Mo_thrown hobj2)) (by omega) rfl (by omega) (by omega) rfl (Nat.le_of_ble_eq_true rfl) d_La_law_838 ?_
  rintro _ _ _ ⟨rfl, rfl, rfl⟩
  refine g_iload d_La_law_841 rfl ?_
  refine g_icmpN_eq (tgt := 848) d_La_law_843 (by decide) (by omega) (by omega) (fun hb_843 => ?_) (fun hb_843 => ?_)
  rotate_left
  · exact absurd rfl hb_843
  refine g_iload d_La_law_848 rfl ?_
  first | refine g_ifB_ne (tgt := 865) d_La_law_850 (by decide) (fun hb_850 => ?_) (fun hb_850 => ?_) | refine g_ifN_ne (tgt := 865) d_La_law_850 (by decide) (by omega) (fun hb_850 => ?_) (fun hb_850 => ?_)
  · refine g_goto (tgt := 1233) d_La_law_865 (by decide) ?_
    refine g_iinc (v := nI (6 * (t + 1))) d_La_law_1233 rfl (by rw [show Int32.ofInt 6 = nI 6 from rfl, nI_add, Nat.mul_succ]) (by decide) ?_
    refine g_goto (tgt := 23) d_La_law_1236 (by decide) ?_
    exact ih _ M2 _ _ _ tn2 ts2 mm2 rr2 gn2 gs2 fo2 _ _ hOA hOM ho2 (by omega) (by omega) (by omega)
  · refine g_aload_n d_La_law_853 rfl ?_
    refine g_iconst (v := nI 0) d_La_law_854 (by decide) ?_
    refine g_lald _ (by assumption) rfl (by omega) (by decide) d_La_law_855 ?_
    refine g_iload d_La_law_856 rfl ?_
    refine g_i2l d_La_law_858 rfl ?_
    refine g_lcmp d_La_law_859 ?_
    rw [hval hb_850 rfl]
    refine g_if_eq (tgt := 865) d_La_law_860 (by decide) (fun _ => ?_) (fun hb => absurd (lg_self _) hb)
    refine g_goto (tgt := 1233) d_La_law_865 (by decide) ?_
    refine g_iinc (v := nI (6 * (t + 1))) d_La_law_1233 rfl (by rw [show Int32.ofInt 6 = nI 6 from rfl, nI_add, Nat.mul_succ]) (by decide) ?_
    refine g_goto (tgt := 23) d_La_law_1236 (by decide) ?_
    exact ih _ M2 _ _ _ tn2 ts2 mm2 rr2 gn2 gs2 fo2 _ _ hOA hOM ho2 (by omega) (by omega) (by omega)
theorem law_differing {tb : List ExceptionTableEntry} {Γ : gT} {b B nn t N k n tn : Nat} {M : gM} {th : Int32} {ts mm : Nat → Nat} {rr : Nat → Nat → Rl} {gn : Nat} {gs : Nat → Nat} {fo : Nat → Int64} {y5 y6 : Option Value} {xs : Nat → Int32} (hX : g_X (g_s Γ)) (hXs : va_X b nn xs (g_s Γ) (g_h0 E)) (hnn : nn ≤ 3072) (ht : 6 * t + 6 ≤ nn)
    (ih : ∀ (N : Nat) (M : gM) (k n : Nat) (th : Int32) (tn : Nat) (ts mm : Nat → Nat) (rr : Nat → Nat → Rl) (gn : Nat) (gs : Nat → Nat) (fo : Nat → Int64) (y5 y6 : Option Value), OA E M B tn ts mm rr gn gs → OM E M (B + 152) th tn ts mm rr gn gs → M (B + 165) = some (g_la E 1 fo) → B + 166 ≤ N → k ≤ 200 + (t + 1) → n ≤ 30000 + 6 * (t + 1) → G l E y_La_law code 7 ret tb 840 (g_ret (fun v _ _ => v = some (.int 1))) 601024 7293034 Γ 23 [some (.ref b), some (.ref B), some (.ref (B + 152)), some (.ref (B + 165)), some (.int (nI (6 * (t + 1)))), y5, y6] [] N M k n)
    (h : OA E M B tn ts mm rr gn gs) (hm : OM E M (B + 152) th tn ts mm rr gn gs) (ho : M (B + 165) = some (g_la E 1 fo)) (hN : B + 166 ≤ N) (hk : k ≤ 200 + t) (hn : n ≤ 30000 + 6 * t) : G l E y_La_law code 7 ret tb 840 (g_ret (fun v _ _ => v = some (.int 1))) 601024 7293034 Γ 868 [some (.ref b), some (.ref B), some (.ref (B + 152)), some (.ref (B + 165)), some (.int (nI (6 * t))), y5, y6] [] N M k n := by
  have hm8 := hm.2.2.1.1
  have hB := h.1.1
  refine g_aload_n d_La_law_868 rfl ?_
  refine g_callV s_La_116 sv_RD_differing (by assumption) rfl (k_RD_differing h) (by omega) rfl (by omega) (by omega) rfl (Nat.le_of_ble_eq_true rfl) d_La_law_869 ?_
  rintro v N1 M1 ⟨rfl, rfl, h1, f1⟩
  have hm1 := hm.kept (M' := M1) (fun x _ _ => f1 x (by omega))
  obtain ⟨⟨rc, pl, fa, hobj1⟩, -⟩ := id hm1
  refine g_aload_n d_La_law_872 rfl ?_
  refine g_callV s_La_119 sv_Mo_differing (by assumption) rfl (k_Mo_differing hm1) (by omega) rfl (by omega) (by omega) rfl (Nat.le_of_ble_eq_true rfl) d_La_law_873 ?_
  rintro w N2 M2 ⟨rfl, rfl, hOM, f2⟩
  rw [ul_apk (rr 0) (rr 1) (hm8 0 (by omega)).1 (hm8 1 (by omega)).1]
  have hlt := apk_lt (unl (rr 0) (mm 0) (rr 1) (mm 1))
  have hOA := h1.kept (M' := M2) (fun x _ _ => f2 x (by omega))
  have ho2 := (f2 (B + 165) (by omega)).trans ((f1 (B + 165) (by omega)).trans ho)
  refine g_icmpN_eq (tgt := 1233) d_La_law_876 (by decide) (by omega) (by omega) (fun hb_876 => ?_) (fun hb_876 => ?_)
  · refine g_iinc (v := nI (6 * (t + 1))) d_La_law_1233 rfl (by rw [show Int32.ofInt 6 = nI 6 from rfl, nI_add, Nat.mul_succ]) (by decide) ?_
    refine g_goto (tgt := 23) d_La_law_1236 (by decide) ?_
    exact ih _ M2 _ _ _ tn ts mm rr gn gs fo _ _ hOA hOM ho2 (by omega) (by omega) (by omega)
  · exact absurd rfl hb_876
theorem law_witness {tb : List ExceptionTableEntry} {Γ : gT} {b B nn t N k n tn : Nat} {M : gM} {th : Int32} {ts mm : Nat → Nat} {rr : Nat → Nat → Rl} {gn : Nat} {gs : Nat → Nat} {fo : Nat → Int64} {y5 y6 : Option Value} {xs : Nat → Int32} (hX : g_X (g_s Γ)) (hXs : va_X b nn xs (g_s Γ) (g_h0 E)) (hnn : nn ≤ 3072) (ht : 6 * t + 6 ≤ nn)
    (ih : ∀ (N : Nat) (M : gM) (k n : Nat) (th : Int32) (tn : Nat) (ts mm : Nat → Nat) (rr : Nat → Nat → Rl) (gn : Nat) (gs : Nat → Nat) (fo : Nat → Int64) (y5 y6 : Option Value), OA E M B tn ts mm rr gn gs → OM E M (B + 152) th tn ts mm rr gn gs → M (B + 165) = some (g_la E 1 fo) → B + 166 ≤ N → k ≤ 200 + (t + 1) → n ≤ 30000 + 6 * (t + 1) → G l E y_La_law code 7 ret tb 840 (g_ret (fun v _ _ => v = some (.int 1))) 601024 7293034 Γ 23 [some (.ref b), some (.ref B), some (.ref (B + 152)), some (.ref (B + 165)), some (.int (nI (6 * (t + 1)))), y5, y6] [] N M k n)
    (h : OA E M B tn ts mm rr gn gs) (hm : OM E M (B + 152) th tn ts mm rr gn gs) (ho : M (B + 165) = some (g_la E 1 fo)) (hN : B + 166 ≤ N) (hk : k ≤ 200 + t) (hn : n ≤ 30000 + 6 * t) : G l E y_La_law code 7 ret tb 840 (g_ret (fun v _ _ => v = some (.int 1))) 601024 7293034 Γ 881 [some (.ref b), some (.ref B), some (.ref (B + 152)), some (.ref (B + 165)), some (.int (nI (6 * t))), y5, y6] [] N M k n := by
  obtain ⟨P, hCX, hP⟩ := j_witness (l := l) h hm ho hN (xs (6 * t + 1))
  refine g_aload_n d_La_law_881 rfl ?_
  refine g_aload_n d_La_law_882 rfl ?_
  refine g_iload d_La_law_883 rfl ?_
  refine g_iconst (v := nI 1) d_La_law_885 (by decide) ?_
  refine g_iadd d_La_law_886 ?_
  refine g_eqi (nI_add _ _) ?_
  refine g_sald (6 * t + 1) hXs rfl (by omega) (by omega) d_La_law_887 ?_
  refine g_aload_n d_La_law_888 rfl ?_
  refine g_callSX (np := 3) hX w_819 w_0 w_821 ⟨by decide, by decide⟩ (by decide +kernel) (by decide) w_820 hCX (by omega) rfl (by omega) (by omega) rfl (Nat.le_of_ble_eq_true rfl) d_La_law_889 ?_
  rintro v N1 M1 hp
  obtain ⟨kc, rfl, hk3, hN1, hN2, ⟨fs1, hobj1⟩, Pm, hcm, hpm⟩ := hP _ _ _ hp
  refine g_istore d_La_law_892 (by decide) ?_
  refine g_aload_n d_La_law_894 rfl ?_
  refine g_aload_n d_La_law_895 rfl ?_
  refine g_iload d_La_law_896 rfl ?_
  refine g_iconst (v := nI 1) d_La_law_898 (by decide) ?_
  refine g_iadd d_La_law_899 ?_
  refine g_eqi (nI_add _ _) ?_
  refine g_sald (6 * t + 1) hXs rfl (by omega) (by omega) d_La_law_900 ?_
  refine g_callV s_La_122 sv_Mo_witness (by assumption) rfl (hcm) (by omega) rfl (by omega) (by omega) rfl (Nat.le_of_ble_eq_true rfl) d_La_law_901 ?_
  rintro w N2 M2 hw
  obtain ⟨rfl, zb, fo2, tn2, ts2, mm2, rr2, gn2, gs2, hw1, hOA, hOM, ho2, hval⟩ := hpm _ _ _ hw
  obtain ⟨⟨rc, pl, fa, hobj2⟩, -⟩ := id hOM
  have hw2 : w = some (.int zb) := hw1
  subst hw2
  refine g_istore d_La_law_904 (by decide) ?_
  refine g_aload_n d_La_law_906 rfl ?_
  refine g_callV s_La_78 sv_Mo_thrown (by assumption) rfl (g_of_val (k_Mo_thrown hobj2)) (by omega) rfl (by omega) (by omega) rfl (Nat.le_of_ble_eq_true rfl) d_La_law_907 ?_
  rintro _ _ _ ⟨rfl, rfl, rfl⟩
  refine g_iload d_La_law_910 rfl ?_
  refine g_icmpN_eq (tgt := 917) d_La_law_912 (by decide) (by omega) (by omega) (fun hb_912 => ?_) (fun hb_912 => ?_)
  rotate_left
  · exact absurd rfl hb_912
  refine g_iload d_La_law_917 rfl ?_
  first | refine g_ifB_ne (tgt := 934) d_La_law_919 (by decide) (fun hb_919 => ?_) (fun hb_919 => ?_) | refine g_ifN_ne (tgt := 934) d_La_law_919 (by decide) (by omega) (fun hb_919 => ?_) (fun hb_919 => ?_)
  · refine g_goto (tgt := 1233) d_La_law_934 (by decide) ?_
    refine g_iinc (v := nI (6 * (t + 1))) d_La_law_1233 rfl (by rw [show Int32.ofInt 6 = nI 6 from rfl, nI_add, Nat.mul_succ]) (by decide) ?_
    refine g_goto (tgt := 23) d_La_law_1236 (by decide) ?_
    exact ih _ M2 _ _ _ tn2 ts2 mm2 rr2 gn2 gs2 fo2 _ _ hOA hOM ho2 (by omega) (by omega) (by omega)
  · refine g_aload_n d_La_law_922 rfl ?_
    refine g_iconst (v := nI 0) d_La_law_923 (by decide) ?_
    refine g_lald _ (by assumption) rfl (by omega) (by decide) d_La_law_924 ?_
    refine g_iload d_La_law_925 rfl ?_
    refine g_i2l d_La_law_927 rfl ?_
    refine g_lcmp d_La_law_928 ?_
    rw [hval hb_919 rfl]
    refine g_if_eq (tgt := 934) d_La_law_929 (by decide) (fun _ => ?_) (fun hb => absurd (lg_self _) hb)
    refine g_goto (tgt := 1233) d_La_law_934 (by decide) ?_
    refine g_iinc (v := nI (6 * (t + 1))) d_La_law_1233 rfl (by rw [show Int32.ofInt 6 = nI 6 from rfl, nI_add, Nat.mul_succ]) (by decide) ?_
    refine g_goto (tgt := 23) d_La_law_1236 (by decide) ?_
    exact ih _ M2 _ _ _ tn2 ts2 mm2 rr2 gn2 gs2 fo2 _ _ hOA hOM ho2 (by omega) (by omega) (by omega)
theorem law_used {tb : List ExceptionTableEntry} {Γ : gT} {b B nn t N k n tn : Nat} {M : gM} {th : Int32} {ts mm : Nat → Nat} {rr : Nat → Nat → Rl} {gn : Nat} {gs : Nat → Nat} {fo : Nat → Int64} {y5 y6 : Option Value} {xs : Nat → Int32} (hX : g_X (g_s Γ)) (hXs : va_X b nn xs (g_s Γ) (g_h0 E)) (hnn : nn ≤ 3072) (ht : 6 * t + 6 ≤ nn)
    (ih : ∀ (N : Nat) (M : gM) (k n : Nat) (th : Int32) (tn : Nat) (ts mm : Nat → Nat) (rr : Nat → Nat → Rl) (gn : Nat) (gs : Nat → Nat) (fo : Nat → Int64) (y5 y6 : Option Value), OA E M B tn ts mm rr gn gs → OM E M (B + 152) th tn ts mm rr gn gs → M (B + 165) = some (g_la E 1 fo) → B + 166 ≤ N → k ≤ 200 + (t + 1) → n ≤ 30000 + 6 * (t + 1) → G l E y_La_law code 7 ret tb 840 (g_ret (fun v _ _ => v = some (.int 1))) 601024 7293034 Γ 23 [some (.ref b), some (.ref B), some (.ref (B + 152)), some (.ref (B + 165)), some (.int (nI (6 * (t + 1)))), y5, y6] [] N M k n)
    (h : OA E M B tn ts mm rr gn gs) (hm : OM E M (B + 152) th tn ts mm rr gn gs) (ho : M (B + 165) = some (g_la E 1 fo)) (hN : B + 166 ≤ N) (hk : k ≤ 200 + t) (hn : n ≤ 30000 + 6 * t) : G l E y_La_law code 7 ret tb 840 (g_ret (fun v _ _ => v = some (.int 1))) 601024 7293034 Γ 937 [some (.ref b), some (.ref B), some (.ref (B + 152)), some (.ref (B + 165)), some (.int (nI (6 * t))), y5, y6] [] N M k n := by
  obtain ⟨P, hCX, hP⟩ := j_used (l := l) h hm ho hN (xs (6 * t + 1)) (xs (6 * t + 2))
  refine g_aload_n d_La_law_937 rfl ?_
  refine g_aload_n d_La_law_938 rfl ?_
  refine g_iload d_La_law_939 rfl ?_
  refine g_iconst (v := nI 1) d_La_law_941 (by decide) ?_
  refine g_iadd d_La_law_942 ?_
  refine g_eqi (nI_add _ _) ?_
  refine g_sald (6 * t + 1) hXs rfl (by omega) (by omega) d_La_law_943 ?_
  refine g_aload_n d_La_law_944 rfl ?_
  refine g_iload d_La_law_945 rfl ?_
  refine g_iconst (v := nI 2) d_La_law_947 (by decide) ?_
  refine g_iadd d_La_law_948 ?_
  refine g_eqi (nI_add _ _) ?_
  refine g_sald (6 * t + 2) hXs rfl (by omega) (by omega) d_La_law_949 ?_
  refine g_aload_n d_La_law_950 rfl ?_
  refine g_callSX (np := 4) hX w_840 w_0 w_842 ⟨by decide, by decide⟩ (by decide +kernel) (by decide) w_841 hCX (by omega) rfl (by omega) (by omega) rfl (Nat.le_of_ble_eq_true rfl) d_La_law_951 ?_
  rintro v N1 M1 hp
  obtain ⟨kc, rfl, hk3, hN1, hN2, ⟨fs1, hobj1⟩, Pm, hcm, hpm⟩ := hP _ _ _ hp
  refine g_istore d_La_law_954 (by decide) ?_
  refine g_aload_n d_La_law_956 rfl ?_
  refine g_aload_n d_La_law_957 rfl ?_
  refine g_iload d_La_law_958 rfl ?_
  refine g_iconst (v := nI 1) d_La_law_960 (by decide) ?_
  refine g_iadd d_La_law_961 ?_
  refine g_eqi (nI_add _ _) ?_
  refine g_sald (6 * t + 1) hXs rfl (by omega) (by omega) d_La_law_962 ?_
  refine g_aload_n d_La_law_963 rfl ?_
  refine g_iload d_La_law_964 rfl ?_
  refine g_iconst (v := nI 2) d_La_law_966 (by decide) ?_
  refine g_iadd d_La_law_967 ?_
  refine g_eqi (nI_add _ _) ?_
  refine g_sald (6 * t + 2) hXs rfl (by omega) (by omega) d_La_law_968 ?_
  refine g_callV s_La_125 sv_Mo_used (by assumption) rfl (hcm) (by omega) rfl (by omega) (by omega) rfl (Nat.le_of_ble_eq_true rfl) d_La_law_969 ?_
  rintro w N2 M2 hw
  obtain ⟨rfl, zb, fo2, tn2, ts2, mm2, rr2, gn2, gs2, hw1, hOA, hOM, ho2, hval⟩ := hpm _ _ _ hw
  obtain ⟨⟨rc, pl, fa, hobj2⟩, -⟩ := id hOM
  have hw2 : w = some (.int zb) := hw1
  subst hw2
  refine g_istore d_La_law_972 (by decide) ?_
  refine g_aload_n d_La_law_974 rfl ?_
  refine g_callV s_La_78 sv_Mo_thrown (by assumption) rfl (g_of_val (k_Mo_thrown hobj2)) (by omega) rfl (by omega) (by omega) rfl (Nat.le_of_ble_eq_true rfl) d_La_law_975 ?_
  rintro _ _ _ ⟨rfl, rfl, rfl⟩
  refine g_iload d_La_law_978 rfl ?_
  refine g_icmpN_eq (tgt := 985) d_La_law_980 (by decide) (by omega) (by omega) (fun hb_980 => ?_) (fun hb_980 => ?_)
  rotate_left
  · exact absurd rfl hb_980
  refine g_iload d_La_law_985 rfl ?_
  first | refine g_ifB_ne (tgt := 1002) d_La_law_987 (by decide) (fun hb_987 => ?_) (fun hb_987 => ?_) | refine g_ifN_ne (tgt := 1002) d_La_law_987 (by decide) (by omega) (fun hb_987 => ?_) (fun hb_987 => ?_)
  · refine g_goto (tgt := 1233) d_La_law_1002 (by decide) ?_
    refine g_iinc (v := nI (6 * (t + 1))) d_La_law_1233 rfl (by rw [show Int32.ofInt 6 = nI 6 from rfl, nI_add, Nat.mul_succ]) (by decide) ?_
    refine g_goto (tgt := 23) d_La_law_1236 (by decide) ?_
    exact ih _ M2 _ _ _ tn2 ts2 mm2 rr2 gn2 gs2 fo2 _ _ hOA hOM ho2 (by omega) (by omega) (by omega)
  · refine g_aload_n d_La_law_990 rfl ?_
    refine g_iconst (v := nI 0) d_La_law_991 (by decide) ?_
    refine g_lald _ (by assumption) rfl (by omega) (by decide) d_La_law_992 ?_
    refine g_iload d_La_law_993 rfl ?_
    refine g_i2l d_La_law_995 rfl ?_
    refine g_lcmp d_La_law_996 ?_
    rw [hval hb_987 rfl]
    refine g_if_eq (tgt := 1002) d_La_law_997 (by decide) (fun _ => ?_) (fun hb => absurd (lg_self _) hb)
    refine g_goto (tgt := 1233) d_La_law_1002 (by decide) ?_
    refine g_iinc (v := nI (6 * (t + 1))) d_La_law_1233 rfl (by rw [show Int32.ofInt 6 = nI 6 from rfl, nI_add, Nat.mul_succ]) (by decide) ?_
    refine g_goto (tgt := 23) d_La_law_1236 (by decide) ?_
    exact ih _ M2 _ _ _ tn2 ts2 mm2 rr2 gn2 gs2 fo2 _ _ hOA hOM ho2 (by omega) (by omega) (by omega)
theorem law_prune {tb : List ExceptionTableEntry} {Γ : gT} {b B nn t N k n tn : Nat} {M : gM} {th : Int32} {ts mm : Nat → Nat} {rr : Nat → Nat → Rl} {gn : Nat} {gs : Nat → Nat} {fo : Nat → Int64} {y5 y6 : Option Value} {xs : Nat → Int32} (hX : g_X (g_s Γ)) (hXs : va_X b nn xs (g_s Γ) (g_h0 E)) (hnn : nn ≤ 3072) (ht : 6 * t + 6 ≤ nn)
    (ih : ∀ (N : Nat) (M : gM) (k n : Nat) (th : Int32) (tn : Nat) (ts mm : Nat → Nat) (rr : Nat → Nat → Rl) (gn : Nat) (gs : Nat → Nat) (fo : Nat → Int64) (y5 y6 : Option Value), OA E M B tn ts mm rr gn gs → OM E M (B + 152) th tn ts mm rr gn gs → M (B + 165) = some (g_la E 1 fo) → B + 166 ≤ N → k ≤ 200 + (t + 1) → n ≤ 30000 + 6 * (t + 1) → G l E y_La_law code 7 ret tb 840 (g_ret (fun v _ _ => v = some (.int 1))) 601024 7293034 Γ 23 [some (.ref b), some (.ref B), some (.ref (B + 152)), some (.ref (B + 165)), some (.int (nI (6 * (t + 1)))), y5, y6] [] N M k n)
    (h : OA E M B tn ts mm rr gn gs) (hm : OM E M (B + 152) th tn ts mm rr gn gs) (ho : M (B + 165) = some (g_la E 1 fo)) (hN : B + 166 ≤ N) (hk : k ≤ 200 + t) (hn : n ≤ 30000 + 6 * t) : G l E y_La_law code 7 ret tb 840 (g_ret (fun v _ _ => v = some (.int 1))) 601024 7293034 Γ 1005 [some (.ref b), some (.ref B), some (.ref (B + 152)), some (.ref (B + 165)), some (.int (nI (6 * t))), y5, y6] [] N M k n := by
  obtain ⟨P, hCX, hP⟩ := j_prune (l := l) h hm ho hN (xs (6 * t + 1))
  refine g_aload_n d_La_law_1005 rfl ?_
  refine g_aload_n d_La_law_1006 rfl ?_
  refine g_iload d_La_law_1007 rfl ?_
  refine g_iconst (v := nI 1) d_La_law_1009 (by decide) ?_
  refine g_iadd d_La_law_1010 ?_
  refine g_eqi (nI_add _ _) ?_
  refine g_sald (6 * t + 1) hXs rfl (by omega) (by omega) d_La_law_1011 ?_
  refine g_aload_n d_La_law_1012 rfl ?_
  refine g_callSX (np := 3) hX w_852 w_0 w_854 ⟨by decide, by decide⟩ (by decide +kernel) (by decide) w_853 hCX (by omega) rfl (by omega) (by omega) rfl (Nat.le_of_ble_eq_true rfl) d_La_law_1013 ?_
  rintro v N1 M1 hp
  obtain ⟨kc, rfl, hk3, hN1, hN2, ⟨fs1, hobj1⟩, Pm, hcm, hpm⟩ := hP _ _ _ hp
  refine g_istore d_La_law_1016 (by decide) ?_
  refine g_aload_n d_La_law_1018 rfl ?_
  refine g_aload_n d_La_law_1019 rfl ?_
  refine g_iload d_La_law_1020 rfl ?_
  refine g_iconst (v := nI 1) d_La_law_1022 (by decide) ?_
  refine g_iadd d_La_law_1023 ?_
  refine g_eqi (nI_add _ _) ?_
  refine g_sald (6 * t + 1) hXs rfl (by omega) (by omega) d_La_law_1024 ?_
  refine g_callV s_La_128 sv_Mo_prune (by assumption) rfl (hcm) (by omega) rfl (by omega) (by omega) rfl (Nat.le_of_ble_eq_true rfl) d_La_law_1025 ?_
  rintro w N2 M2 hw
  obtain ⟨rfl, zb, fo2, tn2, ts2, mm2, rr2, gn2, gs2, hw1, hOA, hOM, ho2, hval⟩ := hpm _ _ _ hw
  obtain ⟨⟨rc, pl, fa, hobj2⟩, -⟩ := id hOM
  have hw2 : w = some (.int zb) := hw1
  subst hw2
  refine g_istore d_La_law_1028 (by decide) ?_
  refine g_aload_n d_La_law_1030 rfl ?_
  refine g_callV s_La_78 sv_Mo_thrown (by assumption) rfl (g_of_val (k_Mo_thrown hobj2)) (by omega) rfl (by omega) (by omega) rfl (Nat.le_of_ble_eq_true rfl) d_La_law_1031 ?_
  rintro _ _ _ ⟨rfl, rfl, rfl⟩
  refine g_iload d_La_law_1034 rfl ?_
  refine g_icmpN_eq (tgt := 1041) d_La_law_1036 (by decide) (by omega) (by omega) (fun hb_1036 => ?_) (fun hb_1036 => ?_)
  rotate_left
  · exact absurd rfl hb_1036
  refine g_iload d_La_law_1041 rfl ?_
  first | refine g_ifB_ne (tgt := 1058) d_La_law_1043 (by decide) (fun hb_1043 => ?_) (fun hb_1043 => ?_) | refine g_ifN_ne (tgt := 1058) d_La_law_1043 (by decide) (by omega) (fun hb_1043 => ?_) (fun hb_1043 => ?_)
  · refine g_goto (tgt := 1233) d_La_law_1058 (by decide) ?_
    refine g_iinc (v := nI (6 * (t + 1))) d_La_law_1233 rfl (by rw [show Int32.ofInt 6 = nI 6 from rfl, nI_add, Nat.mul_succ]) (by decide) ?_
    refine g_goto (tgt := 23) d_La_law_1236 (by decide) ?_
    exact ih _ M2 _ _ _ tn2 ts2 mm2 rr2 gn2 gs2 fo2 _ _ hOA hOM ho2 (by omega) (by omega) (by omega)
  · refine g_aload_n d_La_law_1046 rfl ?_
    refine g_iconst (v := nI 0) d_La_law_1047 (by decide) ?_
    refine g_lald _ (by assumption) rfl (by omega) (by decide) d_La_law_1048 ?_
    refine g_iload d_La_law_1049 rfl ?_
    refine g_i2l d_La_law_1051 rfl ?_
    refine g_lcmp d_La_law_1052 ?_
    rw [hval hb_1043 rfl]
    refine g_if_eq (tgt := 1058) d_La_law_1053 (by decide) (fun _ => ?_) (fun hb => absurd (lg_self _) hb)
    refine g_goto (tgt := 1233) d_La_law_1058 (by decide) ?_
    refine g_iinc (v := nI (6 * (t + 1))) d_La_law_1233 rfl (by rw [show Int32.ofInt 6 = nI 6 from rfl, nI_add, Nat.mul_succ]) (by decide) ?_
    refine g_goto (tgt := 23) d_La_law_1236 (by decide) ?_
    exact ih _ M2 _ _ _ tn2 ts2 mm2 rr2 gn2 gs2 fo2 _ _ hOA hOM ho2 (by omega) (by omega) (by omega)
theorem law_pass {tb : List ExceptionTableEntry} {Γ : gT} {b B nn t N k n tn : Nat} {M : gM} {th : Int32} {ts mm : Nat → Nat} {rr : Nat → Nat → Rl} {gn : Nat} {gs : Nat → Nat} {fo : Nat → Int64} {y5 y6 : Option Value} {xs : Nat → Int32} (hX : g_X (g_s Γ)) (hXs : va_X b nn xs (g_s Γ) (g_h0 E)) (hnn : nn ≤ 3072) (ht : 6 * t + 6 ≤ nn)
    (ih : ∀ (N : Nat) (M : gM) (k n : Nat) (th : Int32) (tn : Nat) (ts mm : Nat → Nat) (rr : Nat → Nat → Rl) (gn : Nat) (gs : Nat → Nat) (fo : Nat → Int64) (y5 y6 : Option Value), OA E M B tn ts mm rr gn gs → OM E M (B + 152) th tn ts mm rr gn gs → M (B + 165) = some (g_la E 1 fo) → B + 166 ≤ N → k ≤ 200 + (t + 1) → n ≤ 30000 + 6 * (t + 1) → G l E y_La_law code 7 ret tb 840 (g_ret (fun v _ _ => v = some (.int 1))) 601024 7293034 Γ 23 [some (.ref b), some (.ref B), some (.ref (B + 152)), some (.ref (B + 165)), some (.int (nI (6 * (t + 1)))), y5, y6] [] N M k n)
    (h : OA E M B tn ts mm rr gn gs) (hm : OM E M (B + 152) th tn ts mm rr gn gs) (ho : M (B + 165) = some (g_la E 1 fo)) (hN : B + 166 ≤ N) (hk : k ≤ 200 + t) (hn : n ≤ 30000 + 6 * t) : G l E y_La_law code 7 ret tb 840 (g_ret (fun v _ _ => v = some (.int 1))) 601024 7293034 Γ 1061 [some (.ref b), some (.ref B), some (.ref (B + 152)), some (.ref (B + 165)), some (.int (nI (6 * t))), y5, y6] [] N M k n := by
  obtain ⟨P, hCX, hP⟩ := j_pass (l := l) h hm ho hN (xs (6 * t + 1)) (xs (6 * t + 2)) (xs (6 * t + 3)) (xs (6 * t + 4)) (xs (6 * t + 5))
  refine g_aload_n d_La_law_1061 rfl ?_
  refine g_aload_n d_La_law_1062 rfl ?_
  refine g_iload d_La_law_1063 rfl ?_
  refine g_iconst (v := nI 1) d_La_law_1065 (by decide) ?_
  refine g_iadd d_La_law_1066 ?_
  refine g_eqi (nI_add _ _) ?_
  refine g_sald (6 * t + 1) hXs rfl (by omega) (by omega) d_La_law_1067 ?_
  refine g_aload_n d_La_law_1068 rfl ?_
  refine g_iload d_La_law_1069 rfl ?_
  refine g_iconst (v := nI 2) d_La_law_1071 (by decide) ?_
  refine g_iadd d_La_law_1072 ?_
  refine g_eqi (nI_add _ _) ?_
  refine g_sald (6 * t + 2) hXs rfl (by omega) (by omega) d_La_law_1073 ?_
  refine g_aload_n d_La_law_1074 rfl ?_
  refine g_iload d_La_law_1075 rfl ?_
  refine g_iconst (v := nI 3) d_La_law_1077 (by decide) ?_
  refine g_iadd d_La_law_1078 ?_
  refine g_eqi (nI_add _ _) ?_
  refine g_sald (6 * t + 3) hXs rfl (by omega) (by omega) d_La_law_1079 ?_
  refine g_aload_n d_La_law_1080 rfl ?_
  refine g_iload d_La_law_1081 rfl ?_
  refine g_iconst (v := nI 4) d_La_law_1083 (by decide) ?_
  refine g_iadd d_La_law_1084 ?_
  refine g_eqi (nI_add _ _) ?_
  refine g_sald (6 * t + 4) hXs rfl (by omega) (by omega) d_La_law_1085 ?_
  refine g_aload_n d_La_law_1086 rfl ?_
  refine g_iload d_La_law_1087 rfl ?_
  refine g_iconst (v := nI 5) d_La_law_1089 (by decide) ?_
  refine g_iadd d_La_law_1090 ?_
  refine g_eqi (nI_add _ _) ?_
  refine g_sald (6 * t + 5) hXs rfl (by omega) (by omega) d_La_law_1091 ?_
  refine g_aload_n d_La_law_1092 rfl ?_
  refine g_callSX (np := 7) hX w_859 w_0 w_861 ⟨by decide, by decide⟩ (by decide +kernel) (by decide) w_860 hCX (by omega) rfl (by omega) (by omega) rfl (Nat.le_of_ble_eq_true rfl) d_La_law_1093 ?_
  rintro v N1 M1 hp
  obtain ⟨kc, rfl, hk3, hN1, hN2, ⟨fs1, hobj1⟩, Pm, hcm, hpm⟩ := hP _ _ _ hp
  refine g_istore d_La_law_1096 (by decide) ?_
  refine g_aload_n d_La_law_1098 rfl ?_
  refine g_aload_n d_La_law_1099 rfl ?_
  refine g_iload d_La_law_1100 rfl ?_
  refine g_iconst (v := nI 1) d_La_law_1102 (by decide) ?_
  refine g_iadd d_La_law_1103 ?_
  refine g_eqi (nI_add _ _) ?_
  refine g_sald (6 * t + 1) hXs rfl (by omega) (by omega) d_La_law_1104 ?_
  refine g_aload_n d_La_law_1105 rfl ?_
  refine g_iload d_La_law_1106 rfl ?_
  refine g_iconst (v := nI 2) d_La_law_1108 (by decide) ?_
  refine g_iadd d_La_law_1109 ?_
  refine g_eqi (nI_add _ _) ?_
  refine g_sald (6 * t + 2) hXs rfl (by omega) (by omega) d_La_law_1110 ?_
  refine g_aload_n d_La_law_1111 rfl ?_
  refine g_iload d_La_law_1112 rfl ?_
  refine g_iconst (v := nI 3) d_La_law_1114 (by decide) ?_
  refine g_iadd d_La_law_1115 ?_
  refine g_eqi (nI_add _ _) ?_
  refine g_sald (6 * t + 3) hXs rfl (by omega) (by omega) d_La_law_1116 ?_
  refine g_aload_n d_La_law_1117 rfl ?_
  refine g_iload d_La_law_1118 rfl ?_
  refine g_iconst (v := nI 4) d_La_law_1120 (by decide) ?_
  refine g_iadd d_La_law_1121 ?_
  refine g_eqi (nI_add _ _) ?_
  refine g_sald (6 * t + 4) hXs rfl (by omega) (by omega) d_La_law_1122 ?_
  refine g_aload_n d_La_law_1123 rfl ?_
  refine g_iload d_La_law_1124 rfl ?_
  refine g_iconst (v := nI 5) d_La_law_1126 (by decide) ?_
  refine g_iadd d_La_law_1127 ?_
  refine g_eqi (nI_add _ _) ?_
  refine g_sald (6 * t + 5) hXs rfl (by omega) (by omega) d_La_law_1128 ?_
  refine g_callV s_La_131 sv_Mo_pass (by assumption) rfl (hcm) (by omega) rfl (by omega) (by omega) rfl (Nat.le_of_ble_eq_true rfl) d_La_law_1129 ?_
  rintro w N2 M2 hw
  obtain ⟨rfl, zb, fo2, tn2, ts2, mm2, rr2, gn2, gs2, hw1, hOA, hOM, ho2, hval⟩ := hpm _ _ _ hw
  obtain ⟨⟨rc, pl, fa, hobj2⟩, -⟩ := id hOM
  have hw2 : w = some (.int zb) := hw1
  subst hw2
  refine g_istore d_La_law_1132 (by decide) ?_
  refine g_aload_n d_La_law_1134 rfl ?_
  refine g_callV s_La_78 sv_Mo_thrown (by assumption) rfl (g_of_val (k_Mo_thrown hobj2)) (by omega) rfl (by omega) (by omega) rfl (Nat.le_of_ble_eq_true rfl) d_La_law_1135 ?_
  rintro _ _ _ ⟨rfl, rfl, rfl⟩
  refine g_iload d_La_law_1138 rfl ?_
  refine g_icmpN_eq (tgt := 1145) d_La_law_1140 (by decide) (by omega) (by omega) (fun hb_1140 => ?_) (fun hb_1140 => ?_)
  rotate_left
  · exact absurd rfl hb_1140
  refine g_iload d_La_law_1145 rfl ?_
  first | refine g_ifB_ne (tgt := 1162) d_La_law_1147 (by decide) (fun hb_1147 => ?_) (fun hb_1147 => ?_) | refine g_ifN_ne (tgt := 1162) d_La_law_1147 (by decide) (by omega) (fun hb_1147 => ?_) (fun hb_1147 => ?_)
  · refine g_goto (tgt := 1233) d_La_law_1162 (by decide) ?_
    refine g_iinc (v := nI (6 * (t + 1))) d_La_law_1233 rfl (by rw [show Int32.ofInt 6 = nI 6 from rfl, nI_add, Nat.mul_succ]) (by decide) ?_
    refine g_goto (tgt := 23) d_La_law_1236 (by decide) ?_
    exact ih _ M2 _ _ _ tn2 ts2 mm2 rr2 gn2 gs2 fo2 _ _ hOA hOM ho2 (by omega) (by omega) (by omega)
  · refine g_aload_n d_La_law_1150 rfl ?_
    refine g_iconst (v := nI 0) d_La_law_1151 (by decide) ?_
    refine g_lald _ (by assumption) rfl (by omega) (by decide) d_La_law_1152 ?_
    refine g_iload d_La_law_1153 rfl ?_
    refine g_i2l d_La_law_1155 rfl ?_
    refine g_lcmp d_La_law_1156 ?_
    rw [hval hb_1147 rfl]
    refine g_if_eq (tgt := 1162) d_La_law_1157 (by decide) (fun _ => ?_) (fun hb => absurd (lg_self _) hb)
    refine g_goto (tgt := 1233) d_La_law_1162 (by decide) ?_
    refine g_iinc (v := nI (6 * (t + 1))) d_La_law_1233 rfl (by rw [show Int32.ofInt 6 = nI 6 from rfl, nI_add, Nat.mul_succ]) (by decide) ?_
    refine g_goto (tgt := 23) d_La_law_1236 (by decide) ?_
    exact ih _ M2 _ _ _ tn2 ts2 mm2 rr2 gn2 gs2 fo2 _ _ hOA hOM ho2 (by omega) (by omega) (by omega)
theorem law_connection {tb : List ExceptionTableEntry} {Γ : gT} {b B nn t N k n tn : Nat} {M : gM} {th : Int32} {ts mm : Nat → Nat} {rr : Nat → Nat → Rl} {gn : Nat} {gs : Nat → Nat} {fo : Nat → Int64} {y5 y6 : Option Value} {xs : Nat → Int32} (hX : g_X (g_s Γ)) (hXs : va_X b nn xs (g_s Γ) (g_h0 E)) (hnn : nn ≤ 3072) (ht : 6 * t + 6 ≤ nn)
    (ih : ∀ (N : Nat) (M : gM) (k n : Nat) (th : Int32) (tn : Nat) (ts mm : Nat → Nat) (rr : Nat → Nat → Rl) (gn : Nat) (gs : Nat → Nat) (fo : Nat → Int64) (y5 y6 : Option Value), OA E M B tn ts mm rr gn gs → OM E M (B + 152) th tn ts mm rr gn gs → M (B + 165) = some (g_la E 1 fo) → B + 166 ≤ N → k ≤ 200 + (t + 1) → n ≤ 30000 + 6 * (t + 1) → G l E y_La_law code 7 ret tb 840 (g_ret (fun v _ _ => v = some (.int 1))) 601024 7293034 Γ 23 [some (.ref b), some (.ref B), some (.ref (B + 152)), some (.ref (B + 165)), some (.int (nI (6 * (t + 1)))), y5, y6] [] N M k n)
    (h : OA E M B tn ts mm rr gn gs) (hm : OM E M (B + 152) th tn ts mm rr gn gs) (ho : M (B + 165) = some (g_la E 1 fo)) (hN : B + 166 ≤ N) (hk : k ≤ 200 + t) (hn : n ≤ 30000 + 6 * t) : G l E y_La_law code 7 ret tb 840 (g_ret (fun v _ _ => v = some (.int 1))) 601024 7293034 Γ 1165 [some (.ref b), some (.ref B), some (.ref (B + 152)), some (.ref (B + 165)), some (.int (nI (6 * t))), y5, y6] [] N M k n := by
  obtain ⟨P, hCX, hP⟩ := j_connection (l := l) h hm ho hN (xs (6 * t + 1)) (xs (6 * t + 2))
  refine g_aload_n d_La_law_1165 rfl ?_
  refine g_aload_n d_La_law_1166 rfl ?_
  refine g_iload d_La_law_1167 rfl ?_
  refine g_iconst (v := nI 1) d_La_law_1169 (by decide) ?_
  refine g_iadd d_La_law_1170 ?_
  refine g_eqi (nI_add _ _) ?_
  refine g_sald (6 * t + 1) hXs rfl (by omega) (by omega) d_La_law_1171 ?_
  refine g_aload_n d_La_law_1172 rfl ?_
  refine g_iload d_La_law_1173 rfl ?_
  refine g_iconst (v := nI 2) d_La_law_1175 (by decide) ?_
  refine g_iadd d_La_law_1176 ?_
  refine g_eqi (nI_add _ _) ?_
  refine g_sald (6 * t + 2) hXs rfl (by omega) (by omega) d_La_law_1177 ?_
  refine g_aload_n d_La_law_1178 rfl ?_
  refine g_callSX (np := 4) hX w_885 w_0 w_887 ⟨by decide, by decide⟩ (by decide +kernel) (by decide) w_886 hCX (by omega) rfl (by omega) (by omega) rfl (Nat.le_of_ble_eq_true rfl) d_La_law_1179 ?_
  rintro v N1 M1 hp
  obtain ⟨kc, rfl, hk3, hN1, hN2, ⟨fs1, hobj1⟩, Pm, hcm, hpm⟩ := hP _ _ _ hp
  refine g_istore d_La_law_1182 (by decide) ?_
  refine g_aload_n d_La_law_1184 rfl ?_
  refine g_aload_n d_La_law_1185 rfl ?_
  refine g_iload d_La_law_1186 rfl ?_
  refine g_iconst (v := nI 1) d_La_law_1188 (by decide) ?_
  refine g_iadd d_La_law_1189 ?_
  refine g_eqi (nI_add _ _) ?_
  refine g_sald (6 * t + 1) hXs rfl (by omega) (by omega) d_La_law_1190 ?_
  refine g_aload_n d_La_law_1191 rfl ?_
  refine g_iload d_La_law_1192 rfl ?_
  refine g_iconst (v := nI 2) d_La_law_1194 (by decide) ?_
  refine g_iadd d_La_law_1195 ?_
  refine g_eqi (nI_add _ _) ?_
  refine g_sald (6 * t + 2) hXs rfl (by omega) (by omega) d_La_law_1196 ?_
  refine g_callV s_La_134 sv_Mo_connection (by assumption) rfl (hcm) (by omega) rfl (by omega) (by omega) rfl (Nat.le_of_ble_eq_true rfl) d_La_law_1197 ?_
  rintro w N2 M2 hw
  obtain ⟨rfl, zb, fo2, tn2, ts2, mm2, rr2, gn2, gs2, hw1, hOA, hOM, ho2, hval⟩ := hpm _ _ _ hw
  obtain ⟨⟨rc, pl, fa, hobj2⟩, -⟩ := id hOM
  have hw2 : w = some (.int zb) := hw1
  subst hw2
  refine g_istore d_La_law_1200 (by decide) ?_
  refine g_aload_n d_La_law_1202 rfl ?_
  refine g_callV s_La_78 sv_Mo_thrown (by assumption) rfl (g_of_val (k_Mo_thrown hobj2)) (by omega) rfl (by omega) (by omega) rfl (Nat.le_of_ble_eq_true rfl) d_La_law_1203 ?_
  rintro _ _ _ ⟨rfl, rfl, rfl⟩
  refine g_iload d_La_law_1206 rfl ?_
  refine g_icmpN_eq (tgt := 1213) d_La_law_1208 (by decide) (by omega) (by omega) (fun hb_1208 => ?_) (fun hb_1208 => ?_)
  rotate_left
  · exact absurd rfl hb_1208
  refine g_iload d_La_law_1213 rfl ?_
  first | refine g_ifB_ne (tgt := 1230) d_La_law_1215 (by decide) (fun hb_1215 => ?_) (fun hb_1215 => ?_) | refine g_ifN_ne (tgt := 1230) d_La_law_1215 (by decide) (by omega) (fun hb_1215 => ?_) (fun hb_1215 => ?_)
  · refine g_goto (tgt := 1233) d_La_law_1230 (by decide) ?_
    refine g_iinc (v := nI (6 * (t + 1))) d_La_law_1233 rfl (by rw [show Int32.ofInt 6 = nI 6 from rfl, nI_add, Nat.mul_succ]) (by decide) ?_
    refine g_goto (tgt := 23) d_La_law_1236 (by decide) ?_
    exact ih _ M2 _ _ _ tn2 ts2 mm2 rr2 gn2 gs2 fo2 _ _ hOA hOM ho2 (by omega) (by omega) (by omega)
  · refine g_aload_n d_La_law_1218 rfl ?_
    refine g_iconst (v := nI 0) d_La_law_1219 (by decide) ?_
    refine g_lald _ (by assumption) rfl (by omega) (by decide) d_La_law_1220 ?_
    refine g_iload d_La_law_1221 rfl ?_
    refine g_i2l d_La_law_1223 rfl ?_
    refine g_lcmp d_La_law_1224 ?_
    rw [hval hb_1215 rfl]
    refine g_if_eq (tgt := 1230) d_La_law_1225 (by decide) (fun _ => ?_) (fun hb => absurd (lg_self _) hb)
    refine g_goto (tgt := 1233) d_La_law_1230 (by decide) ?_
    refine g_iinc (v := nI (6 * (t + 1))) d_La_law_1233 rfl (by rw [show Int32.ofInt 6 = nI 6 from rfl, nI_add, Nat.mul_succ]) (by decide) ?_
    refine g_goto (tgt := 23) d_La_law_1236 (by decide) ?_
    exact ih _ M2 _ _ _ tn2 ts2 mm2 rr2 gn2 gs2 fo2 _ _ hOA hOM ho2 (by omega) (by omega) (by omega)
theorem law_loop {tb : List ExceptionTableEntry} {Γ : gT} {b B nn : Nat} {xs : Nat → Int32} (hX : g_X (g_s Γ)) (hXs : va_X b nn xs (g_s Γ) (g_h0 E)) (hnn : nn ≤ 3072) : ∀ t, t ≤ nn / 6 → ∀ (N : Nat) (M : gM) (k n : Nat) (th : Int32) (tn : Nat) (ts mm : Nat → Nat) (rr : Nat → Nat → Rl) (gn : Nat) (gs : Nat → Nat) (fo : Nat → Int64) (y5 y6 : Option Value), OA E M B tn ts mm rr gn gs → OM E M (B + 152) th tn ts mm rr gn gs → M (B + 165) = some (g_la E 1 fo) → B + 166 ≤ N → k ≤ 200 + t → n ≤ 30000 + 6 * t → G l E y_La_law code 7 ret tb 840 (g_ret (fun v _ _ => v = some (.int 1))) 601024 7293034 Γ 23 [some (.ref b), some (.ref B), some (.ref (B + 152)), some (.ref (B + 165)), some (.int (nI (6 * t))), y5, y6] [] N M k n := by
  refine g_for (P := fun t => ∀ (N : Nat) (M : gM) (k n : Nat) (th : Int32) (tn : Nat) (ts mm : Nat → Nat) (rr : Nat → Nat → Rl) (gn : Nat) (gs : Nat → Nat) (fo : Nat → Int64) (y5 y6 : Option Value), OA E M B tn ts mm rr gn gs → OM E M (B + 152) th tn ts mm rr gn gs → M (B + 165) = some (g_la E 1 fo) → B + 166 ≤ N → k ≤ 200 + t → n ≤ 30000 + 6 * t → G l E y_La_law code 7 ret tb 840 (g_ret (fun v _ _ => v = some (.int 1))) 601024 7293034 Γ 23 [some (.ref b), some (.ref B), some (.ref (B + 152)), some (.ref (B + 165)), some (.int (nI (6 * t))), y5, y6] [] N M k n) (e := nn / 6) ?_ ?_
  · intro N M k n th tn ts mm rr gn gs fo y5 y6 h hm ho hN hk hn
    refine g_iload d_La_law_23 rfl ?_
    refine g_aload_n d_La_law_25 rfl ?_
    refine g_xlen hXs d_La_law_26 ?_
    refine g_bipush (v := nI 6) d_La_law_27 (by decide) ?_
    refine g_isub d_La_law_29 ?_
    by_cases c : nn < 6
    · have h6 : ∀ nn, nn < 6 → nI nn - nI 6 < nI (6 * 0) := by decide
      rw [show nn / 6 = 0 by omega]
      refine g_icmp_gt (tgt := 1239) d_La_law_30 (by decide) (fun _ => ?_) (fun hb => absurd (h6 nn c) hb)
      refine g_iconst (v := nI 1) d_La_law_1239 (by decide) ?_
      exact g_ireturn rfl rfl (by omega) (by omega) d_La_law_1240 ⟨_, rfl, rfl⟩
    · refine g_eqi (z := nI (nn - 6)) (pk_sub (by omega)) ?_
      refine g_icmpN_gt (tgt := 1239) d_La_law_30 (by decide) (by omega) (by omega) (fun hb_30 => ?_) (fun hb_30 => ?_)
      · refine g_iconst (v := nI 1) d_La_law_1239 (by decide) ?_
        exact g_ireturn rfl rfl (by omega) (by omega) d_La_law_1240 ⟨_, rfl, rfl⟩
      · omega
  · intro t ht ih N M k n th tn ts mm rr gn gs fo y5 y6 h hm ho hN hk hn
    refine g_iload d_La_law_23 rfl ?_
    refine g_aload_n d_La_law_25 rfl ?_
    refine g_xlen hXs d_La_law_26 ?_
    refine g_bipush (v := nI 6) d_La_law_27 (by decide) ?_
    refine g_isub d_La_law_29 ?_
    refine g_eqi (z := nI (nn - 6)) (pk_sub (by omega)) ?_
    refine g_icmpN_gt (tgt := 1239) d_La_law_30 (by decide) (by omega) (by omega) (fun hb_30 => ?_) (fun hb_30 => ?_)
    · omega
    refine g_aload_n d_La_law_33 rfl ?_
    refine g_iload d_La_law_34 rfl ?_
    refine g_sald (6 * t) hXs rfl (by omega) (by omega) d_La_law_36 ?_
    refine g_bipush (v := nI 31) d_La_law_37 (by decide) ?_
    refine g_iand d_La_law_39 ?_
    obtain ⟨u, hu⟩ := nI_all (xs (6 * t))
    have hq : u &&& 31 < 32 := Nat.lt_of_le_of_lt Nat.and_le_right (by omega)
    refine g_eqi (z := nI (u &&& 31)) (by rw [← hu, nI_and]) ?_
    generalize u &&& 31 = q at hq
    by_cases c : 17 ≤ q
    · refine g_tswO (tgt := 1233) q (by omega) (by omega) (by decide) d_La_law_40 ?_
      refine g_iinc (v := nI (6 * (t + 1))) d_La_law_1233 rfl (by rw [show Int32.ofInt 6 = nI 6 from rfl, nI_add, Nat.mul_succ]) (by decide) ?_
      refine g_goto (tgt := 23) d_La_law_1236 (by decide) ?_
      exact ih _ M _ _ _ tn ts mm rr gn gs fo _ _ h hm ho (by omega) (by omega) (by omega)
    have hq2 : q = 0 ∨ q = 1 ∨ q = 2 ∨ q = 3 ∨ q = 4 ∨ q = 5 ∨ q = 6 ∨ q = 7 ∨ q = 8 ∨ q = 9 ∨ q = 10 ∨ q = 11 ∨ q = 12 ∨ q = 13 ∨ q = 14 ∨ q = 15 ∨ q = 16 := by omega
    rcases hq2 with rfl | rfl | rfl | rfl | rfl | rfl | rfl | rfl | rfl | rfl | rfl | rfl | rfl | rfl | rfl | rfl | rfl
    · refine g_tswI (tgt := 124) 0 (by omega) (by decide) rfl (by decide) d_La_law_40 ?_
      exact law_put hX hXs hnn (by omega) ih h hm ho hN hk hn
    · refine g_tswI (tgt := 180) 1 (by omega) (by decide) rfl (by decide) d_La_law_40 ?_
      exact law_read hX hXs hnn (by omega) ih h hm ho hN hk hn
    · refine g_tswI (tgt := 236) 2 (by omega) (by decide) rfl (by decide) d_La_law_40 ?_
      exact law_remove hX hXs hnn (by omega) ih h hm ho hN hk hn
    · refine g_tswI (tgt := 284) 3 (by omega) (by decide) rfl (by decide) d_La_law_40 ?_
      exact law_swap hX hXs hnn (by omega) ih h hm ho hN hk hn
    · refine g_tswI (tgt := 332) 4 (by omega) (by decide) rfl (by decide) d_La_law_40 ?_
      exact law_rules hX hXs hnn (by omega) ih h hm ho hN hk hn
    · refine g_tswI (tgt := 388) 5 (by omega) (by decide) rfl (by decide) d_La_law_40 ?_
      exact law_rule hX hXs hnn (by omega) ih h hm ho hN hk hn
    · refine g_tswI (tgt := 468) 6 (by omega) (by decide) rfl (by decide) d_La_law_40 ?_
      exact law_verdict hX hXs hnn (by omega) ih h hm ho hN hk hn
    · refine g_tswI (tgt := 572) 7 (by omega) (by decide) rfl (by decide) d_La_law_40 ?_
      exact law_first hX hXs hnn (by omega) ih h hm ho hN hk hn
    · refine g_tswI (tgt := 676) 8 (by omega) (by decide) rfl (by decide) d_La_law_40 ?_
      exact law_count hX hXs hnn (by omega) ih h hm ho hN hk hn
    · refine g_tswI (tgt := 744) 9 (by omega) (by decide) rfl (by decide) d_La_law_40 ?_
      exact law_nodes hX hXs hnn (by omega) ih h hm ho hN hk hn
    · refine g_tswI (tgt := 812) 10 (by omega) (by decide) rfl (by decide) d_La_law_40 ?_
      exact law_edges hX hXs hnn (by omega) ih h hm ho hN hk hn
    · refine g_tswI (tgt := 868) 11 (by omega) (by decide) rfl (by decide) d_La_law_40 ?_
      exact law_differing hX hXs hnn (by omega) ih h hm ho hN hk hn
    · refine g_tswI (tgt := 881) 12 (by omega) (by decide) rfl (by decide) d_La_law_40 ?_
      exact law_witness hX hXs hnn (by omega) ih h hm ho hN hk hn
    · refine g_tswI (tgt := 937) 13 (by omega) (by decide) rfl (by decide) d_La_law_40 ?_
      exact law_used hX hXs hnn (by omega) ih h hm ho hN hk hn
    · refine g_tswI (tgt := 1005) 14 (by omega) (by decide) rfl (by decide) d_La_law_40 ?_
      exact law_prune hX hXs hnn (by omega) ih h hm ho hN hk hn
    · refine g_tswI (tgt := 1061) 15 (by omega) (by decide) rfl (by decide) d_La_law_40 ?_
      exact law_pass hX hXs hnn (by omega) ih h hm ho hN hk hn
    · refine g_tswI (tgt := 1165) 16 (by omega) (by decide) rfl (by decide) d_La_law_40 ?_
      exact law_connection hX hXs hnn (by omega) ih h hm ho hN hk hn
end LAW

