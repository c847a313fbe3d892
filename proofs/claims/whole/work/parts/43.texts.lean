/-! texts of the constant pools: old objects -/
theorem d_Pre_checkIndex_0 : decode c_Pre_checkIndex 0 = .ok (.iload_n 0, 1) := by decide +kernel
theorem d_Pre_checkIndex_1 : decode c_Pre_checkIndex 1 = .ok (.ifCond .lt 8, 3) := by decide +kernel
theorem d_Pre_checkIndex_4 : decode c_Pre_checkIndex 4 = .ok (.iload_n 0, 1) := by decide +kernel
theorem d_Pre_checkIndex_5 : decode c_Pre_checkIndex 5 = .ok (.iload_n 1, 1) := by decide +kernel
theorem d_Pre_checkIndex_6 : decode c_Pre_checkIndex 6 = .ok (.if_icmp .lt 10, 3) := by decide +kernel
theorem d_Pre_checkIndex_9 : decode c_Pre_checkIndex 9 = .ok (.aload_n 2, 1) := by decide +kernel
theorem d_Pre_checkIndex_10 : decode c_Pre_checkIndex 10 = .ok (.iload_n 0, 1) := by decide +kernel
theorem d_Pre_checkIndex_11 : decode c_Pre_checkIndex 11 = .ok (.iload_n 1, 1) := by decide +kernel
theorem d_Pre_checkIndex_12 : decode c_Pre_checkIndex 12 = .ok (.invokestatic 95, 3) := by decide +kernel
theorem d_Pre_checkIndex_15 : decode c_Pre_checkIndex 15 = .ok (.athrow, 1) := by decide +kernel
theorem d_Pre_checkIndex_16 : decode c_Pre_checkIndex 16 = .ok (.iload_n 0, 1) := by decide +kernel
theorem d_Pre_checkIndex_17 : decode c_Pre_checkIndex 17 = .ok (.ireturn, 1) := by decide +kernel
section GOLD
variable {l : Launch} {E : gE} {y : MethodName} {cc : ByteArray} {nL : Nat} {ret : Option FieldType} {tb : List ExceptionTableEntry} {d : Nat} {Q : Outcome → Nat → gM → Prop} {mc ms : Nat} {Γ : gT} {pc : Nat} {L : List (Option Value)} {st : List Value} {N : Nat} {M : gM} {k n : Nat}
theorem g_getO {index q : Nat} {o nm ds : String} {v : Value} (hE : ∀ U, g_K E U → va_OF o nm ds v q (g_A E) U (g_h0 E)) (hl0 : Cond.fieldLink y.cls index o nm ds ∈ g_WS) (dg : decode cc pc = .ok (.getfield index, 3)) (kk : G l E y cc nL ret tb d Q mc ms Γ (pc + 3) L (v :: st) N M k n) : G l E y cc nL ret tb d Q mc ms Γ pc L (.ref q :: st) N M k n := by
  intro hc H locs ls hl hr hq
  obtain ⟨cf, kk0, fi0, f, cell, h1, h2, h3, h4, h5, h6⟩ := hE _ hc.K
  exact W.getf hc.x hc.b hc.o (hc.t _ hl0) h1 h2 (hr.old h3) h4 (v := v) h5 rfl rfl dg (kk hc H locs ls hl hr hq)
theorem g_alenO {a nn : Nat} {f : Nat → Value} {ty : FieldType} (hT : ∀ U, g_K E U → va_T ty a nn f (g_A E) U (g_h0 E)) (dg : decode cc pc = .ok (.arraylength, 1)) (kk : G l E y cc nL ret tb d Q mc ms Γ (pc + 1) L (.int (nI nn) :: st) N M k n) : G l E y cc nL ret tb d Q mc ms Γ pc L (.ref a :: st) N M k n := by
  intro hc H locs ls hl hr hq
  obtain ⟨cell, h1, h2, h3, h4, h5, h6, h7⟩ := hT _ hc.K
  exact W.alen hc.x hc.b (hr.old h1) h2 h5 rfl rfl dg (kk hc H locs ls hl hr hq)
theorem g_baldO {a nn : Nat} {f : Nat → Int32} {i : Int32} (j : Nat) (hT : ∀ U, g_K E U → va_T .byte a nn (fun z => .int (f z)) (g_A E) U (g_h0 E)) (hi : i = nI j) (hj : j < nn) (hs : nn < 2 ^ 31) (dg : decode cc pc = .ok (.baload, 1)) (kk : G l E y cc nL ret tb d Q mc ms Γ (pc + 1) L (.int (f j) :: st) N M k n) : G l E y cc nL ret tb d Q mc ms Γ pc L (.int i :: .ref a :: st) N M k n := by
  intro hc H locs ls hl hr hq
  subst hi
  obtain ⟨cell, h1, h2, h3, h4, h5, h6, h7⟩ := hT _ hc.K
  have hcl := nI_clamp (Nat.lt_trans hj hs)
  refine W.bald (v := .int (f j)) hc.x hc.b (hr.old h1) h2 h3 ?_ ?_ rfl rfl dg (kk hc H locs ls hl hr hq)
  · intro h
    rcases h with h | h
    · exact nI_pos (Nat.lt_trans hj hs) h
    · rw [hcl] at h
      omega
  · rw [hcl]
    exact h6 j hj
theorem g_ldcS {index i : Nat} {tx : String} (hs : g_str[i]? = some (y.cls, index, tx)) (dg : decode cc pc = .ok (.ldc index, 2)) (kk : G l E y cc nL ret tb d Q mc ms Γ (pc + 2) L (.ref (g_ad E (2 + i)) :: st) N M k n) : G l E y cc nL ret tb d Q mc ms Γ pc L st N M k n :=
  fun hc H locs ls hl hr hq => va_ldcS hc.x hc.b hc.o (hc.K.2.2.2.1.2 i _ hs) dg (kk hc H locs ls hl hr hq)
theorem g_getsq {index : Nat} {C nm ds : String} (hZ : ∀ U, g_K E U → va_Zq C nm ds (g_A E) U (g_h0 E)) (hl0 : Cond.fieldLink y.cls index C nm ds ∈ g_WS) (dg : decode cc pc = .ok (.getstatic index, 3)) (kk : ∀ v : Value, (v = .null ∨ ∃ t, v = .ref t) → G l E y cc nL ret tb d Q mc ms Γ (pc + 3) L (v :: st) N M k n) : G l E y cc nL ret tb d Q mc ms Γ pc L st N M k n := by
  intro hc H locs ls hl hr hq
  have go : ∀ v : Value, (v = .null ∨ ∃ t, v = .ref t) → va_Z C nm ds v (g_A E) (g_s Γ) (g_h0 E) → g_W E Q mc ms Γ H locs k n (F0 (g_m Γ) pc ls st) := by
    intro v hv hz
    obtain ⟨cf, kf, fi0, f, a, cell, h1, h2, h3, h4, h5, h6, h7, h8⟩ := hz
    exact W.gets hc.x hc.b hc.o (hc.t _ hl0) h1 h2 h3 h4 (hr.old h5) (fun e => by rw [e] at h6; cases h6) h7 rfl dg (kk v hv hc H locs ls hl hr hq)
  rcases hZ _ hc.K with h | ⟨t, h⟩
  · exact go _ (Or.inl rfl) h
  · exact go _ (Or.inr ⟨t, rfl⟩) h
theorem g_callVO {yy : MethodName} {bytes : ByteArray} {maxL np index dd mc' ms' a : Nat} {rt : Option FieldType} {as rest stk : List Value} {P : Option Value → Nat → gM → Prop} (hS : g_S y.cls index yy bytes maxL rt np) (hS2 : Cond.instanceMethod yy ∈ g_WS ∧ Cond.selects yy.cls yy yy ∈ g_WS) (hO : ∀ U, g_K E U → va_O yy.cls a (g_A E) U (g_h0 E)) (hC : Ctr l E yy dd (.ref a :: as) N M mc' ms' (g_ret P)) (hd : dd < d) (hnp : as.length = np) (hk : k + mc' ≤ mc) (hs : n + ms' ≤ ms) (hst : stk = as.reverse ++ .ref a :: rest) (hw : (rest.map fun v => v.category).sum ≤ 8) (dg : decode cc pc = .ok (.invokevirtual index, 3))
    (kk : ∀ v N' M', P v N' M' → G l E y cc nL ret tb d Q mc ms Γ (pc + 3) L (v.toList ++ rest) N' M' (k + mc') (n + ms')) : G l E y cc nL ret tb d Q mc ms Γ pc L stk N M k n := by
  intro hc H locs ls hl hr hq
  subst hst
  obtain ⟨cell, h1, h2, h3, h4⟩ := hO _ hc.K
  refine g_ofRun (rest := rest) hc hl hq (va_runV (As := as) (b := a) (C := yy.cls) ⟨hc.x, hc.b, hc.ml, hc.o, hc.t⟩ (hc.l ▸ g_met hC hc.f) ⟨g_callB hc hS hd, hc.t _ hS2.1, hc.t _ hS2.2⟩ ⟨g_blind, ⟨cell, hr.old h1, h2, h3⟩, fun U hU hW => ⟨rfl, by rw [hU]; exact hr, g_K.moved hW hc.K⟩⟩ rfl hnp hl.1.1 rfl (lv_room hw) dg ⟨by rw [hc.R]; exact hk, by rw [hc.R]; exact hs⟩) kk
end GOLD
section TEXTS
variable {l : Launch} {E : gE} {N : Nat} {M : gM}
theorem z_COMPACT {E : gE} (U : State) (h : g_K E U) : va_Z "java/lang/String" "COMPACT_STRINGS" "Z" (.int (nI 1)) (g_A E) U (g_h0 E) := h.2.2.2.2.1
theorem z_SIO {E : gE} (U : State) (h : g_K E U) : va_Zq "jdk/internal/util/Preconditions" "SIOOBE_FORMATTER" "Ljava/util/function/BiFunction;" (g_A E) U (g_h0 E) := h.2.2.2.2.2.2.2.2.1
theorem s_O {E : gE} (i : Nat) (hi : i < 16) (U : State) (h : g_K E U) : va_O "java/lang/String" (g_ad E (2 + i)) (g_A E) U (g_h0 E) := (h.2.2.2.1.1.1 i hi).1
theorem s_C {E : gE} (i : Nat) (hi : i < 16) (U : State) (h : g_K E U) : va_OF "java/lang/String" "coder" "B" (.int (nI 0)) (g_ad E (2 + i)) (g_A E) U (g_h0 E) := (h.2.2.2.1.1.1 i hi).2.1
theorem s_V {E : gE} (i : Nat) (hi : i < 16) (U : State) (h : g_K E U) : va_OF "java/lang/String" "value" "[B" (.ref (g_ad E (40 + i))) (g_ad E (2 + i)) (g_A E) U (g_h0 E) := (h.2.2.2.1.1.1 i hi).2.2.1
theorem s_B {E : gE} (i : Nat) (hi : i < 16) (U : State) (h : g_K E U) : va_T .byte (g_ad E (40 + i)) (g_slen.getD i 0) (fun z => .int ((fun j => (g_sbyt.getD i []).getD j 0) z)) (g_A E) U (g_h0 E) := (h.2.2.2.1.1.1 i hi).2.2.2
/-- sign j of text i -/
def stx (i j : Nat) : Nat := ((g_str.getD i ("", 0, "")).2.2.toList.getD j 'x').toNat
theorem stx_v : ∀ i, i < 16 → ∀ j, j < g_slen.getD i 0 → ((g_sbyt.getD i []).getD j 0 &&& nI 255).toUInt32 % 65536 = (nI (stx i j)).toUInt32 ∧ stx i j < 128 := by decide +kernel
theorem slen_lt : ∀ i, i < 16 → g_slen.getD i 0 < 30 := by decide
theorem k_Str_coder (i : Nat) (hi : i < 16) : Ctr l E y_Str_coder 0 [.ref (g_ad E (2 + i))] N M 0 0 (g_val (some (.int (nI 0))) N M) := by
  refine ctr_of [some (.ref (g_ad E (2 + i)))] (by decide) w_508 rfl rfl (Nat.le_of_ble_eq_true rfl) (fun Γ => ?_)
  refine g_gets z_COMPACT w_509 d_Str_coder_0 ?_
  first | refine g_ifB_eq (tgt := 13) d_Str_coder_3 (by decide) (fun hb_3 => ?_) (fun hb_3 => ?_) | refine g_ifN_eq (tgt := 13) d_Str_coder_3 (by decide) (by omega) (fun hb_3 => ?_) (fun hb_3 => ?_)
  · exact absurd hb_3 (by decide)
  refine g_aload_n d_Str_coder_6 rfl ?_
  refine g_getO (s_C i hi) w_1182 d_Str_coder_7 ?_
  refine g_goto (tgt := 14) d_Str_coder_10 (by decide) ?_
  exact g_ireturn rfl (by first | rfl | exact bI_nar _) (by omega) (by omega) d_Str_coder_14 ⟨rfl, rfl, rfl⟩
theorem k_Str_isLatin1 (i : Nat) (hi : i < 16) : Ctr l E y_Str_isLatin1 0 [.ref (g_ad E (2 + i))] N M 0 0 (g_val (some (.int (bI true))) N M) := by
  refine ctr_of [some (.ref (g_ad E (2 + i)))] (by decide) w_522 rfl rfl (Nat.le_of_ble_eq_true rfl) (fun Γ => ?_)
  refine g_gets z_COMPACT w_509 d_Str_isLatin1_0 ?_
  first | refine g_ifB_eq (tgt := 17) d_Str_isLatin1_3 (by decide) (fun hb_3 => ?_) (fun hb_3 => ?_) | refine g_ifN_eq (tgt := 17) d_Str_isLatin1_3 (by decide) (by omega) (fun hb_3 => ?_) (fun hb_3 => ?_)
  · exact absurd hb_3 (by decide)
  refine g_aload_n d_Str_isLatin1_6 rfl ?_
  refine g_getO (s_C i hi) w_1182 d_Str_isLatin1_7 ?_
  first | refine g_ifB_ne (tgt := 17) d_Str_isLatin1_10 (by decide) (fun hb_10 => ?_) (fun hb_10 => ?_) | refine g_ifN_ne (tgt := 17) d_Str_isLatin1_10 (by decide) (by omega) (fun hb_10 => ?_) (fun hb_10 => ?_)
  · exact absurd rfl hb_10
  refine g_iconst (v := nI 1) d_Str_isLatin1_13 (by decide) ?_
  refine g_goto (tgt := 18) d_Str_isLatin1_14 (by decide) ?_
  refine g_Tr (b := true) rfl ?_
  exact g_ireturn rfl (by first | rfl | exact bI_nar _) (by omega) (by omega) d_Str_isLatin1_18 ⟨rfl, rfl, rfl⟩
theorem k_Str_length (i : Nat) (hi : i < 16) : Ctr l E y_Str_length 1 [.ref (g_ad E (2 + i))] N M 0 0 (g_val (some (.int (nI (g_slen.getD i 0)))) N M) := by
  have hs := slen_lt i hi
  refine ctr_of [some (.ref (g_ad E (2 + i)))] (by decide) w_504 rfl rfl (Nat.le_of_ble_eq_true rfl) (fun Γ => ?_)
  refine g_aload_n d_Str_length_0 rfl ?_
  refine g_getO (s_V i hi) w_1181 d_Str_length_1 ?_
  refine g_alenO (s_B i hi) d_Str_length_4 ?_
  refine g_aload_n d_Str_length_5 rfl ?_
  refine g_callVO s_Str_335 sv_Str_coder (s_O i hi) (g_of_val (k_Str_coder i hi)) (by omega) rfl (by omega) (by omega) rfl (Nat.le_of_ble_eq_true rfl) d_Str_length_6 ?_
  rintro _ _ _ ⟨rfl, rfl, rfl⟩
  refine g_ishr d_Str_length_9 ?_
  refine g_eqi (nI_shr (by omega) (by omega)) ?_
  rw [show g_slen.getD i 0 / 2 ^ 0 = g_slen.getD i 0 by rw [Nat.pow_zero, Nat.div_one]]
  exact g_ireturn rfl (by first | rfl | exact bI_nar _) (by omega) (by omega) d_Str_length_10 ⟨rfl, rfl, rfl⟩
theorem k_Pre_checkIndex (i n : Nat) (h : i < n) (hn : n < 2 ^ 31) (v : Value) (hv : v = .null ∨ ∃ t, v = .ref t) : Ctr l E y_Pre_checkIndex 0 [.int (nI i), .int (nI n), v] N M 0 0 (g_val (some (.int (nI i))) N M) := by
  rcases hv with rfl | ⟨t, rfl⟩
  · refine ctr_of [some (.int (nI i)), some (.int (nI n)), some (.null)] (by decide) w_533 rfl rfl (Nat.le_of_ble_eq_true rfl) (fun Γ => ?_)
    refine g_iload_n d_Pre_checkIndex_0 rfl ?_
    refine g_ifN_lt (tgt := 9) d_Pre_checkIndex_1 (by decide) (by omega) (fun hb_1 => ?_) (fun hb_1 => ?_)
    · contradiction
    refine g_iload_n d_Pre_checkIndex_4 rfl ?_
    refine g_iload_n d_Pre_checkIndex_5 rfl ?_
    refine g_icmpN_lt (tgt := 16) d_Pre_checkIndex_6 (by decide) (by omega) (by omega) (fun hb_6 => ?_) (fun hb_6 => ?_)
    · refine g_iload_n d_Pre_checkIndex_16 rfl ?_
      exact g_ireturn rfl (by first | rfl | exact bI_nar _) (by omega) (by omega) d_Pre_checkIndex_17 ⟨rfl, rfl, rfl⟩
    · omega
  · refine ctr_of [some (.int (nI i)), some (.int (nI n)), some (.ref t)] (by decide) w_533 rfl rfl (Nat.le_of_ble_eq_true rfl) (fun Γ => ?_)
    refine g_iload_n d_Pre_checkIndex_0 rfl ?_
    refine g_ifN_lt (tgt := 9) d_Pre_checkIndex_1 (by decide) (by omega) (fun hb_1 => ?_) (fun hb_1 => ?_)
    · contradiction
    refine g_iload_n d_Pre_checkIndex_4 rfl ?_
    refine g_iload_n d_Pre_checkIndex_5 rfl ?_
    refine g_icmpN_lt (tgt := 16) d_Pre_checkIndex_6 (by decide) (by omega) (by omega) (fun hb_6 => ?_) (fun hb_6 => ?_)
    · refine g_iload_n d_Pre_checkIndex_16 rfl ?_
      exact g_ireturn rfl (by first | rfl | exact bI_nar _) (by omega) (by omega) d_Pre_checkIndex_17 ⟨rfl, rfl, rfl⟩
    · omega
theorem k_Str_checkIndex (i n : Nat) (h : i < n) (hn : n < 2 ^ 31) : Ctr l E y_Str_checkIndex 1 [.int (nI i), .int (nI n)] N M 0 0 (g_val none N M) := by
  refine ctr_of [some (.int (nI i)), some (.int (nI n))] (by decide) w_528 rfl rfl (Nat.le_of_ble_eq_true rfl) (fun Γ => ?_)
  refine g_iload_n d_Str_checkIndex_0 rfl ?_
  refine g_iload_n d_Str_checkIndex_1 rfl ?_
  refine g_getsq z_SIO w_529 d_Str_checkIndex_2 (fun v hv => ?_)
  refine g_callS s_Str_1059 sv_Pre_checkIndex (g_of_val (k_Pre_checkIndex i n h hn v hv)) (by omega) rfl (by omega) (by omega) rfl (Nat.le_of_ble_eq_true rfl) d_Str_checkIndex_5 ?_
  rintro _ _ _ ⟨rfl, rfl, rfl⟩
  refine g_pop d_Str_checkIndex_8 rfl ?_
  exact g_return rfl (by omega) (by omega) d_Str_checkIndex_9 ⟨rfl, rfl, rfl⟩
theorem k_SLa_charAt (i j : Nat) (hi : i < 16) (hj : j < g_slen.getD i 0) : Ctr l E y_SLa_charAt 2 [.ref (g_ad E (40 + i)), .int (nI j)] N M 0 0 (g_val (some (.int (nI (stx i j)))) N M) := by
  have hs := slen_lt i hi
  have hv := stx_v i hi j hj
  refine ctr_of [some (.ref (g_ad E (40 + i))), some (.int (nI j))] (by decide) w_525 rfl rfl (Nat.le_of_ble_eq_true rfl) (fun Γ => ?_)
  refine g_iload_n d_SLa_charAt_0 rfl ?_
  refine g_aload_n d_SLa_charAt_1 rfl ?_
  refine g_alenO (s_B i hi) d_SLa_charAt_2 ?_
  refine g_callS s_SLa_9 sv_Str_checkIndex (g_of_val (k_Str_checkIndex j (g_slen.getD i 0) hj (by omega))) (by omega) rfl (by omega) (by omega) rfl (Nat.le_of_ble_eq_true rfl) d_SLa_charAt_3 ?_
  rintro _ _ _ ⟨rfl, rfl, rfl⟩
  refine g_aload_n d_SLa_charAt_6 rfl ?_
  refine g_iload_n d_SLa_charAt_7 rfl ?_
  refine g_baldO j (s_B i hi) rfl hj (by omega) d_SLa_charAt_8 ?_
  refine g_sipush (v := nI 255) d_SLa_charAt_9 (by decide) ?_
  refine g_iand d_SLa_charAt_12 ?_
  refine g_i2c (v := nI (stx i j)) d_SLa_charAt_13 (by rw [hv.1]; rfl) ?_
  exact g_ireturn rfl (pk_charN (by omega)).1 (by omega) (by omega) d_SLa_charAt_14 ⟨rfl, rfl, rfl⟩
theorem k_Str_charAt (i j : Nat) (hi : i < 16) (hj : j < g_slen.getD i 0) : Ctr l E y_Str_charAt 4 [.ref (g_ad E (2 + i)), .int (nI j)] N M 0 0 (g_val (some (.int (nI (stx i j)))) N M) := by
  have hv := stx_v i hi j hj
  refine ctr_of [some (.ref (g_ad E (2 + i))), some (.int (nI j))] (by decide) w_518 rfl rfl (Nat.le_of_ble_eq_true rfl) (fun Γ => ?_)
  refine g_aload_n d_Str_charAt_0 rfl ?_
  refine g_callVO s_Str_492 sv_Str_isLatin1 (s_O i hi) (g_of_val (k_Str_isLatin1 i hi)) (by omega) rfl (by omega) (by omega) rfl (Nat.le_of_ble_eq_true rfl) d_Str_charAt_1 ?_
  rintro _ _ _ ⟨rfl, rfl, rfl⟩
  first | refine g_ifB_eq (tgt := 16) d_Str_charAt_4 (by decide) (fun hb_4 => ?_) (fun hb_4 => ?_) | refine g_ifN_eq (tgt := 16) d_Str_charAt_4 (by decide) (by omega) (fun hb_4 => ?_) (fun hb_4 => ?_)
  · cases hb_4
  refine g_aload_n d_Str_charAt_7 rfl ?_
  refine g_getO (s_V i hi) w_1181 d_Str_charAt_8 ?_
  refine g_iload_n d_Str_charAt_11 rfl ?_
  refine g_callS s_Str_495 sv_SLa_charAt (g_of_val (k_SLa_charAt i j hi hj)) (by omega) rfl (by omega) (by omega) rfl (Nat.le_of_ble_eq_true rfl) d_Str_charAt_12 ?_
  rintro _ _ _ ⟨rfl, rfl, rfl⟩
  exact g_ireturn rfl (pk_charN (by omega)).1 (by omega) (by omega) d_Str_charAt_15 ⟨rfl, rfl, rfl⟩
end TEXTS

