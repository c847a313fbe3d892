/-! reading: what the steps of the reader do -/
def vh (n : Nat) (ts : Nat → Nat) (a : Nat) : Nat := fi (fun i => wd n ts a (3 + i)) 3
def fh (n : Nat) (ts : Nat → Nat) (a : Nat) : Nat := fi (fun i => wd n ts a (6 + i)) 4
abbrev sR : Type := Bool × Nat × Rl
def nrw (z : Rl) (f a b : Nat) : Rl := (z.1, va_up z.2.1 f a, va_up z.2.2 f b)
def sGr (n : Nat) (ts : Nat → Nat) (f v a : Nat) (z : Rl) : sR := if nb n ts a v (mst f) = true then (true, nx n ts a, nrw z f v (nv n ts a)) else (false, a, z)
def hlo (f v w : Nat) : Nat := v / 2 ^ (bts f - w) * 2 ^ (bts f - w)
def hhi (f v w : Nat) : Nat := hlo f v w + 2 ^ (bts f - w) - 1
def sHb (n : Nat) (ts : Nat → Nat) (f v a : Nat) (z : Rl) : sR := if nb n ts a 0 (bts f) = true then (true, nx n ts a, nrw z f (hlo f v (nv n ts a)) (hhi f v (nv n ts a))) else (false, a, z)
def sRg (n : Nat) (ts : Nat → Nat) (f a : Nat) (z : Rl) : sR :=
  if wd n ts a 10 = true then (true, nx n ts a, z) else if nb n ts a 0 (mst f) = true then
    (if sg n ts (nx n ts a) 45 = true then sGr n ts f (nv n ts a) (nx n ts (nx n ts a)) z else if sg n ts (nx n ts a) 47 = true then sHb n ts f (nv n ts a) (nx n ts (nx n ts a)) z else (true, nx n ts a, nrw z f (nv n ts a) (nv n ts a)))
  else (false, a, z)
def sFs (n : Nat) (ts : Nat → Nat) : Nat → Nat → Nat → Rl → sR
  | 0, _, a, z => if sg n ts a 59 = true then (true, nx n ts a, z) else (false, a, z)
  | k + 1, told, a, z => if sg n ts a 59 = true then (true, nx n ts a, z) else
      if fh n ts a < 4 ∧ told.testBit (fh n ts a) = false then
        (if (sRg n ts (fh n ts a) (nx n ts a) z).1 = true then sFs n ts k (told ||| 2 ^ fh n ts a) (sRg n ts (fh n ts a) (nx n ts a) z).2.1 (sRg n ts (fh n ts a) (nx n ts a) z).2.2 else sRg n ts (fh n ts a) (nx n ts a) z)
      else (false, a, z)
def sRu (n : Nat) (ts : Nat → Nat) (a : Nat) (z : Rl) : sR := if vh n ts a < 3 then sFs n ts 4 0 (nx n ts a) (vh n ts a, fun _ => 0, mst) else (false, a, z)
theorem r_eq_nrw {z w : Rl} (h : r_eq z w) (f a b : Nat) : r_eq (nrw z f a b) (nrw w f a b) := by
  refine ⟨h.1, fun g hg => ?_⟩
  have := h.2 g hg
  unfold nrw va_up
  constructor
  · show (if g = f then a else z.2.1 g) = (if g = f then a else w.2.1 g)
    split
    · rfl
    · exact this.1
  · show (if g = f then b else z.2.2 g) = (if g = f then b else w.2.2 g)
    split
    · rfl
    · exact this.2
theorem nx_le {n : Nat} {ts : Nat → Nat} {a : Nat} (ha : a ≤ n) : nx n ts a ≤ n := (bh_in _ _ _ _).2 (tE_in ha).2
/-- the reader at R, with the text at t -/
def o_rr (E : gE) (M : gM) (R t n : Nat) (ts : Nat → Nat) (a told : Nat) : Prop := M R = some (.inr (3, [.ref (R + 1), .ref (R + 2), .int (nI told)])) ∧ o_pc M (R + 1) t n ts a ∧ o_text E M t n ts ∧ t + 1 < R
/-- nothing changes but the reader, its pieces and a rule -/
def rr_fr (R r : Nat) (M M' : gM) : Prop := ∀ x, x ≠ R → x ≠ R + 1 → (x < r ∨ r + 2 < x) → M' x = M x
section GLOOK
variable {l : Launch} {E : gE} {y : MethodName} {cc : ByteArray} {nL : Nat} {ret : Option FieldType} {tb : List ExceptionTableEntry} {d : Nat} {Q : Outcome → Nat → gM → Prop} {mc ms : Nat} {Γ : gT} {pc : Nat} {L : List (Option Value)} {st : List Value} {N : Nat} {M : gM} {k n : Nat}
theorem g_lookup {dflt : Int} {ps : Array (Int × Int)} {len : Nat} {x : Int32} {off : Int} {tgt : Nat} (dg : decode cc pc = .ok (.lookupswitch dflt ps, len)) (hp : (ps.toList.zip (ps.toList.drop 1)).all (fun (a, next) => a.1 < next.1) = true) (ho : Op.lookupswitch.offset ps.toList dflt x.toInt = off) (ht : (pc : Int) + off = (tgt : Int)) (kk : G l E y cc nL ret tb d Q mc ms Γ tgt L st N M k n) : G l E y cc nL ret tb d Q mc ms Γ pc L (.int x :: st) N M k n :=
  fun hc H locs ls hl hr hq => lv_lookup hc.x hc.b dg hp ho ht (kk hc H locs ls hl hr hq)
end GLOOK
section READER
variable {l : Launch} {E : gE} {N : Nat} {M : gM} {R t n : Nat} {ts : Nat → Nat} {a told : Nat} {r : Nat} {z w : Rl}
theorem k_RR_verdictName (i : Nat) (hi : i < 3) : Ctr l E y_RR_verdictName 0 [.int (nI i)] N M 0 0 (g_val (some (.ref (g_ad E (2 + (3 + i))))) N M) := by
  have hc : i = 0 ∨ i = 1 ∨ i = 2 := by omega
  rcases hc with rfl | rfl | rfl
  · refine ctr_of [some (.int (nI 0))] (by decide) w_493 rfl rfl (Nat.le_of_ble_eq_true rfl) (fun Γ => ?_)
    refine g_iload_n d_RR_verdictName_0 rfl ?_
    refine g_lookup (tgt := 28) (off := 27) d_RR_verdictName_1 (by decide) (by decide) (by decide) ?_
    refine g_ldcS (i := 3) rfl d_RR_verdictName_28 ?_
    exact g_areturn rfl (Or.inl ⟨_, rfl⟩) (by omega) (by omega) d_RR_verdictName_30 ⟨rfl, rfl, rfl⟩
  · refine ctr_of [some (.int (nI 1))] (by decide) w_493 rfl rfl (Nat.le_of_ble_eq_true rfl) (fun Γ => ?_)
    refine g_iload_n d_RR_verdictName_0 rfl ?_
    refine g_lookup (tgt := 31) (off := 30) d_RR_verdictName_1 (by decide) (by decide) (by decide) ?_
    refine g_ldcS (i := 4) rfl d_RR_verdictName_31 ?_
    exact g_areturn rfl (Or.inl ⟨_, rfl⟩) (by omega) (by omega) d_RR_verdictName_33 ⟨rfl, rfl, rfl⟩
  · refine ctr_of [some (.int (nI 2))] (by decide) w_493 rfl rfl (Nat.le_of_ble_eq_true rfl) (fun Γ => ?_)
    refine g_iload_n d_RR_verdictName_0 rfl ?_
    refine g_lookup (tgt := 34) (off := 33) d_RR_verdictName_1 (by decide) (by decide) (by decide) ?_
    refine g_ldcS (i := 5) rfl d_RR_verdictName_34 ?_
    exact g_areturn rfl (Or.inl ⟨_, rfl⟩) (by omega) (by omega) d_RR_verdictName_36 ⟨rfl, rfl, rfl⟩
theorem k_RR_fieldName (i : Nat) (hi : i < 4) : Ctr l E y_RR_fieldName 0 [.int (nI i)] N M 0 0 (g_val (some (.ref (g_ad E (2 + (6 + i))))) N M) := by
  have hc : i = 0 ∨ i = 1 ∨ i = 2 ∨ i = 3 := by omega
  rcases hc with rfl | rfl | rfl | rfl
  · refine ctr_of [some (.int (nI 0))] (by decide) w_577 rfl rfl (Nat.le_of_ble_eq_true rfl) (fun Γ => ?_)
    refine g_iload_n d_RR_fieldName_0 rfl ?_
    refine g_tableIn (tgt := 28) (off := 27) d_RR_fieldName_1 (by decide) (by decide) (by decide) (by decide) ?_
    refine g_ldcS (i := 6) rfl d_RR_fieldName_28 ?_
    exact g_areturn rfl (Or.inl ⟨_, rfl⟩) (by omega) (by omega) d_RR_fieldName_30 ⟨rfl, rfl, rfl⟩
  · refine ctr_of [some (.int (nI 1))] (by decide) w_577 rfl rfl (Nat.le_of_ble_eq_true rfl) (fun Γ => ?_)
    refine g_iload_n d_RR_fieldName_0 rfl ?_
    refine g_tableIn (tgt := 31) (off := 30) d_RR_fieldName_1 (by decide) (by decide) (by decide) (by decide) ?_
    refine g_ldcS (i := 7) rfl d_RR_fieldName_31 ?_
    exact g_areturn rfl (Or.inl ⟨_, rfl⟩) (by omega) (by omega) d_RR_fieldName_33 ⟨rfl, rfl, rfl⟩
  · refine ctr_of [some (.int (nI 2))] (by decide) w_577 rfl rfl (Nat.le_of_ble_eq_true rfl) (fun Γ => ?_)
    refine g_iload_n d_RR_fieldName_0 rfl ?_
    refine g_tableIn (tgt := 34) (off := 33) d_RR_fieldName_1 (by decide) (by decide) (by decide) (by decide) ?_
    refine g_ldcS (i := 8) rfl d_RR_fieldName_34 ?_
    exact g_areturn rfl (Or.inl ⟨_, rfl⟩) (by omega) (by omega) d_RR_fieldName_36 ⟨rfl, rfl, rfl⟩
  · refine ctr_of [some (.int (nI 3))] (by decide) w_577 rfl rfl (Nat.le_of_ble_eq_true rfl) (fun Γ => ?_)
    refine g_iload_n d_RR_fieldName_0 rfl ?_
    refine g_tableOut (tgt := 37) d_RR_fieldName_1 (by decide) (by decide) ?_
    refine g_ldcS (i := 9) rfl d_RR_fieldName_37 ?_
    exact g_areturn rfl (Or.inl ⟨_, rfl⟩) (by omega) (by omega) d_RR_fieldName_39 ⟨rfl, rfl, rfl⟩
theorem k_RR_verdictHere (h : o_rr E M R t n ts a told) : Ctr l E y_RR_verdictHere 6 [.ref R] N M 0 0 (g_val (some (.int (fI (vh n ts a) 3))) N M) := by
  obtain ⟨h1, h2, h3, h4⟩ := h
  have h2a := h2.1
  refine ctr_of [some (.ref R), none] (by decide) w_490 rfl rfl (Nat.le_of_ble_eq_true rfl) (fun Γ => ?_)
  refine g_iconst (v := nI 0) d_RR_verdictHere_0 (by decide) ?_
  refine g_istore_n d_RR_verdictHere_1 (by decide) ?_
  refine g_for (P := fun i => (∀ j, j < i → wd n ts a (3 + j) = false) → G _ _ _ _ _ _ _ _ _ _ _ _ 2 [some (.ref R), some (.int (nI i))] [] N M 0 0) (e := 3) ?_ ?_ 0 (by omega) (fun j hj => by omega)
  · intro hn
    refine g_iload_n d_RR_verdictHere_2 rfl ?_
    refine g_iconst (v := nI 3) d_RR_verdictHere_3 (by decide) ?_
    refine g_icmpN_ge (tgt := 29) d_RR_verdictHere_4 (by decide) (by omega) (by omega) (fun hb_4 => ?_) (fun hb_4 => ?_)
    · refine g_iconst (v := -1) d_RR_verdictHere_29 (by decide) ?_
      refine g_eqi (z := fI (vh n ts a) 3) (by unfold vh; rw [fi_none hn]; unfold fI; rw [if_neg (by omega)]) ?_
      exact g_ireturn rfl (by first | rfl | exact bI_nar _) (by omega) (by omega) d_RR_verdictHere_30 ⟨rfl, rfl, rfl⟩
    · omega
  · intro i hi ih hn
    refine g_iload_n d_RR_verdictHere_2 rfl ?_
    refine g_iconst (v := nI 3) d_RR_verdictHere_3 (by decide) ?_
    refine g_icmpN_ge (tgt := 29) d_RR_verdictHere_4 (by decide) (by omega) (by omega) (fun hb_4 => ?_) (fun hb_4 => ?_)
    · omega
    refine g_aload_n d_RR_verdictHere_7 rfl ?_
    refine g_get f_RR_14 (by assumption) rfl d_RR_verdictHere_8 ?_
    refine g_iload_n d_RR_verdictHere_11 rfl ?_
    refine g_callS s_RR_111 sv_RR_verdictName (g_of_val (k_RR_verdictName i hi)) (by omega) rfl (by omega) (by omega) rfl (Nat.le_of_ble_eq_true rfl) d_RR_verdictHere_12 ?_
    rintro _ _ _ ⟨rfl, rfl, rfl⟩
    refine g_callV s_RR_81 sv_Pi_isWord (by assumption) rfl (g_of_val (k_Pi_isWord h2 h3 (3 + i) (by omega))) (by omega) rfl (by omega) (by omega) rfl (Nat.le_of_ble_eq_true rfl) d_RR_verdictHere_15 ?_
    rintro _ _ _ ⟨rfl, rfl, rfl⟩
    first | refine g_ifB_eq (tgt := 23) d_RR_verdictHere_18 (by decide) (fun hb_18 => ?_) (fun hb_18 => ?_) | refine g_ifN_eq (tgt := 23) d_RR_verdictHere_18 (by decide) (by omega) (fun hb_18 => ?_) (fun hb_18 => ?_)
    · refine g_iinc1 d_RR_verdictHere_23 rfl (by decide) ?_
      refine g_goto (tgt := 2) d_RR_verdictHere_26 (by decide) ?_
      refine ih (fun j hj => ?_)
      by_cases e : j = i
      · rw [e]; exact hb_18
      · exact hn j (by omega)
    · refine g_iload_n d_RR_verdictHere_21 rfl ?_
      refine g_eqi (z := fI (vh n ts a) 3) (by unfold vh; rw [fi_at hi hb_18 hn]; unfold fI; rw [if_pos hi]) ?_
      exact g_ireturn rfl (by first | rfl | exact bI_nar _) (by omega) (by omega) d_RR_verdictHere_22 ⟨rfl, rfl, rfl⟩
theorem k_RR_fieldHere (h : o_rr E M R t n ts a told) : Ctr l E y_RR_fieldHere 6 [.ref R] N M 0 0 (g_val (some (.int (fI (fh n ts a) 4))) N M) := by
  obtain ⟨h1, h2, h3, h4⟩ := h
  have h2a := h2.1
  refine ctr_of [some (.ref R), none] (by decide) w_574 rfl rfl (Nat.le_of_ble_eq_true rfl) (fun Γ => ?_)
  refine g_iconst (v := nI 0) d_RR_fieldHere_0 (by decide) ?_
  refine g_istore_n d_RR_fieldHere_1 (by decide) ?_
  refine g_for (P := fun i => (∀ j, j < i → wd n ts a (6 + j) = false) → G _ _ _ _ _ _ _ _ _ _ _ _ 2 [some (.ref R), some (.int (nI i))] [] N M 0 0) (e := 4) ?_ ?_ 0 (by omega) (fun j hj => by omega)
  · intro hn
    refine g_iload_n d_RR_fieldHere_2 rfl ?_
    refine g_iconst (v := nI 4) d_RR_fieldHere_3 (by decide) ?_
    refine g_icmpN_ge (tgt := 29) d_RR_fieldHere_4 (by decide) (by omega) (by omega) (fun hb_4 => ?_) (fun hb_4 => ?_)
    · refine g_iconst (v := -1) d_RR_fieldHere_29 (by decide) ?_
      refine g_eqi (z := fI (fh n ts a) 4) (by unfold fh; rw [fi_none hn]; unfold fI; rw [if_neg (by omega)]) ?_
      exact g_ireturn rfl (by first | rfl | exact bI_nar _) (by omega) (by omega) d_RR_fieldHere_30 ⟨rfl, rfl, rfl⟩
    · omega
  · intro i hi ih hn
    refine g_iload_n d_RR_fieldHere_2 rfl ?_
    refine g_iconst (v := nI 4) d_RR_fieldHere_3 (by decide) ?_
    refine g_icmpN_ge (tgt := 29) d_RR_fieldHere_4 (by decide) (by omega) (by omega) (fun hb_4 => ?_) (fun hb_4 => ?_)
    · omega
    refine g_aload_n d_RR_fieldHere_7 rfl ?_
    refine g_get f_RR_14 (by assumption) rfl d_RR_fieldHere_8 ?_
    refine g_iload_n d_RR_fieldHere_11 rfl ?_
    refine g_callS s_RR_115 sv_RR_fieldName (g_of_val (k_RR_fieldName i hi)) (by omega) rfl (by omega) (by omega) rfl (Nat.le_of_ble_eq_true rfl) d_RR_fieldHere_12 ?_
    rintro _ _ _ ⟨rfl, rfl, rfl⟩
    refine g_callV s_RR_81 sv_Pi_isWord (by assumption) rfl (g_of_val (k_Pi_isWord h2 h3 (6 + i) (by omega))) (by omega) rfl (by omega) (by omega) rfl (Nat.le_of_ble_eq_true rfl) d_RR_fieldHere_15 ?_
    rintro _ _ _ ⟨rfl, rfl, rfl⟩
    first | refine g_ifB_eq (tgt := 23) d_RR_fieldHere_18 (by decide) (fun hb_18 => ?_) (fun hb_18 => ?_) | refine g_ifN_eq (tgt := 23) d_RR_fieldHere_18 (by decide) (by omega) (fun hb_18 => ?_) (fun hb_18 => ?_)
    · refine g_iinc1 d_RR_fieldHere_23 rfl (by decide) ?_
      refine g_goto (tgt := 2) d_RR_fieldHere_26 (by decide) ?_
      refine ih (fun j hj => ?_)
      by_cases e : j = i
      · rw [e]; exact hb_18
      · exact hn j (by omega)
    · refine g_iload_n d_RR_fieldHere_21 rfl ?_
      refine g_eqi (z := fI (fh n ts a) 4) (by unfold fh; rw [fi_at hi hb_18 hn]; unfold fI; rw [if_pos hi]) ?_
      exact g_ireturn rfl (by first | rfl | exact bI_nar _) (by omega) (by omega) d_RR_fieldHere_22 ⟨rfl, rfl, rfl⟩
/-- the pieces step on, nothing else does -/
theorem o_rr.next {M' : gM} {a' : Nat} (h : o_rr E M R t n ts a told) (hp : o_pc M' (R + 1) t n ts a') (hf : ∀ x, x ≠ R + 1 → M' x = M x) : o_rr E M' R t n ts a' told := by
  obtain ⟨h1, h2, h3, h4⟩ := h
  exact ⟨(hf _ (by omega)).trans h1, hp, h3.kept (fun x _ _ => hf x (by omega)), h4⟩
theorem k_RR_skipSign (h : o_rr E M R t n ts a told) (c : Nat) (hc : c < 128) : Ctr l E y_RR_skipSign 3 [.ref R, .int (nI c)] N M 0 0 (g_ret (fun v N' M' => v = some (.int (bI (sg n ts a c))) ∧ N' = N ∧ o_rr E M' R t n ts (if sg n ts a c = true then nx n ts a else a) told ∧ ∀ x, x ≠ R + 1 → M' x = M x)) := by
  have h0 := h
  obtain ⟨h1, h2, h3, h4⟩ := h
  have h2a := h2.1
  refine ctr_of [some (.ref R), some (.int (nI c))] (by decide) w_600 rfl rfl (Nat.le_of_ble_eq_true rfl) (fun Γ => ?_)
  refine g_aload_n d_RR_skipSign_0 rfl ?_
  refine g_get f_RR_14 (by assumption) rfl d_RR_skipSign_1 ?_
  refine g_iload_n d_RR_skipSign_4 rfl ?_
  refine g_callV s_RR_62 sv_Pi_isSign (by assumption) rfl (g_of_val (k_Pi_isSign h2 h3 c hc)) (by omega) rfl (by omega) (by omega) rfl (Nat.le_of_ble_eq_true rfl) d_RR_skipSign_5 ?_
  rintro _ _ _ ⟨rfl, rfl, rfl⟩
  first | refine g_ifB_ne (tgt := 13) d_RR_skipSign_8 (by decide) (fun hb_8 => ?_) (fun hb_8 => ?_) | refine g_ifN_ne (tgt := 13) d_RR_skipSign_8 (by decide) (by omega) (fun hb_8 => ?_) (fun hb_8 => ?_)
  · refine g_aload_n d_RR_skipSign_13 rfl ?_
    refine g_get f_RR_14 (by assumption) rfl d_RR_skipSign_14 ?_
    refine g_callV s_RR_51 sv_Pi_step (by assumption) rfl (k_Pi_next h2 h3 ⟨by omega, by omega⟩) (by omega) rfl (by omega) (by omega) rfl (Nat.le_of_ble_eq_true rfl) d_RR_skipSign_17 ?_
    rintro v' N' M1 ⟨rfl, rfl, hp, hf⟩
    refine g_iconst (v := nI 1) d_RR_skipSign_20 (by decide) ?_
    refine g_Tr (b := sg n ts a c) hb_8 ?_
    exact g_ireturn rfl (bI_nar _) (by omega) (by omega) d_RR_skipSign_21 ⟨_, rfl, rfl, rfl, by rw [if_pos hb_8]; exact h0.next hp hf, hf⟩
  · refine g_iconst (v := nI 0) d_RR_skipSign_11 (by decide) ?_
    refine g_Fa (b := sg n ts a c) hb_8 ?_
    exact g_ireturn rfl (bI_nar _) (by omega) (by omega) d_RR_skipSign_12 ⟨_, rfl, rfl, rfl, by rw [if_neg (by rw [hb_8]; decide)]; exact h0, fun _ _ => rfl⟩
theorem tb_val {told f : Nat} (ht : told < 16) (hf : f < 4) : ((nI told >>> (nI f &&& 31)) &&& nI 1) = nI (if told.testBit f then 1 else 0) := by
  have h : ∀ told, told < 16 → ∀ f, f < 4 → ((nI told >>> (nI f &&& 31)) &&& nI 1) = nI (if told.testBit f then 1 else 0) := by decide +kernel
  exact h told ht f hf
theorem or16 : ∀ told, told < 16 → ∀ f, f < 4 → told ||| 2 ^ f < 16 := by decide +kernel
theorem k_RR_readName (h : o_rr E M R t n ts a told) (ht : told < 16) : Ctr l E y_RR_readName 7 [.ref R] N M 0 0 (g_ret (fun v N' M' => N' = N ∧ (∀ x, x ≠ R → x ≠ R + 1 → M' x = M x) ∧
    ((fh n ts a < 4 ∧ told.testBit (fh n ts a) = false ∧ v = some (.int (nI (fh n ts a))) ∧ o_rr E M' R t n ts (nx n ts a) (told ||| 2 ^ fh n ts a)) ∨ (¬ (fh n ts a < 4 ∧ told.testBit (fh n ts a) = false) ∧ v = some (.int (-1)) ∧ M' = M)))) := by
  have h0 := h
  obtain ⟨h1, h2, h3, h4⟩ := h
  have h2a := h2.1
  refine ctr_of [some (.ref R), none] (by decide) w_570 rfl rfl (Nat.le_of_ble_eq_true rfl) (fun Γ => ?_)
  refine g_aload_n d_RR_readName_0 rfl ?_
  refine g_callV s_RR_76 sv_RR_fieldHere (by assumption) rfl (g_of_val (k_RR_fieldHere h0)) (by omega) rfl (by omega) (by omega) rfl (Nat.le_of_ble_eq_true rfl) d_RR_readName_1 ?_
  rintro _ _ _ ⟨rfl, rfl, rfl⟩
  refine g_istore_n d_RR_readName_4 (by decide) ?_
  refine g_iload_n d_RR_readName_5 rfl ?_
  refine g_iconst (v := -1) d_RR_readName_6 (by decide) ?_
  by_cases hf : fh n ts a < 4
  · have e0 : fI (fh n ts a) 4 = nI (fh n ts a) := by unfold fI; rw [if_pos hf]
    rw [e0]
    have hor := or16 told ht _ hf
    refine g_icmp_eq (tgt := 22) d_RR_readName_7 (by decide) (fun hb => absurd (congrArg Int32.toInt hb) (by rw [nI_toInt (by omega)]; show ¬ ((fh n ts a : Nat) : Int) = -1; omega)) (fun hb => ?_)
    refine g_aload_n d_RR_readName_10 rfl ?_
    refine g_get f_RR_58 (by assumption) rfl d_RR_readName_11 ?_
    refine g_iload_n d_RR_readName_14 rfl ?_
    refine g_ishr d_RR_readName_15 ?_
    refine g_iconst (v := nI 1) d_RR_readName_16 (by decide) ?_
    refine g_iand d_RR_readName_17 ?_
    refine g_eqi (tb_val ht hf) ?_
    cases hb : told.testBit (fh n ts a) with
    | true =>
      rw [if_pos rfl]
      refine g_iconst (v := nI 1) d_RR_readName_18 (by decide) ?_
      refine g_icmpN_ne (tgt := 24) d_RR_readName_19 (by decide) (by omega) (by omega) (fun hb_19 => ?_) (fun hb_19 => ?_)
      · exact absurd rfl hb_19
      · refine g_iconst (v := -1) d_RR_readName_22 (by decide) ?_
        exact g_ireturn rfl rfl (by omega) (by omega) d_RR_readName_23 ⟨_, rfl, rfl, fun _ _ _ => rfl, Or.inr ⟨fun q => absurd q.2 (by decide), rfl, rfl⟩⟩
    | false =>
      rw [if_neg (by decide)]
      refine g_iconst (v := nI 1) d_RR_readName_18 (by decide) ?_
      refine g_icmpN_ne (tgt := 24) d_RR_readName_19 (by decide) (by omega) (by omega) (fun hb_19 => ?_) (fun hb_19 => ?_)
      · refine g_aload_n d_RR_readName_24 rfl ?_
        refine g_dup d_RR_readName_25 rfl ?_
        refine g_get f_RR_58 (by assumption) rfl d_RR_readName_26 ?_
        refine g_iconst (v := nI 1) d_RR_readName_29 (by decide) ?_
        refine g_iload_n d_RR_readName_30 rfl ?_
        refine g_ishl d_RR_readName_31 ?_
        refine g_eqi (nI_bit (by omega)) ?_
        refine g_ior d_RR_readName_32 ?_
        refine g_eqi (nI_or _ _) ?_
        refine g_put p_RR_58 (by assumption) (Nat.le_of_ble_eq_true rfl) rfl rfl d_RR_readName_33 ?_
        refine g_nm (fun M1 e1 f1 => ?_)
        have h2' : o_pc M1 (R + 1) t n ts a := ⟨(f1 _ (by omega)).trans h2.1, h2.2⟩
        have h2'a := h2'.1
        have h3' := h3.kept (M' := M1) (fun x _ _ => f1 x (by omega))
        refine g_aload_n d_RR_readName_36 rfl ?_
        refine g_get f_RR_14 (by assumption) rfl d_RR_readName_37 ?_
        refine g_callV s_RR_51 sv_Pi_step (by assumption) rfl (k_Pi_next h2' h3' ⟨by omega, by omega⟩) (by omega) rfl (by omega) (by omega) rfl (Nat.le_of_ble_eq_true rfl) d_RR_readName_40 ?_
        rintro v' N' M2 ⟨rfl, rfl, hp, hf2⟩
        refine g_iload_n d_RR_readName_43 rfl ?_
        exact g_ireturn rfl rfl (by omega) (by omega) d_RR_readName_44 ⟨_, rfl, rfl, fun x x1 x2 => (hf2 x x2).trans (f1 x x1), Or.inl ⟨hf, rfl, rfl, (hf2 _ (by omega)).trans e1, hp, h3'.kept (fun x _ _ => hf2 x (by omega)), h4⟩⟩
      · omega
  · have e0 : fI (fh n ts a) 4 = -1 := by unfold fI; rw [if_neg hf]
    rw [e0]
    refine g_icmp_eq (tgt := 22) d_RR_readName_7 (by decide) (fun hb => ?_) (fun hb => absurd rfl hb)
    refine g_iconst (v := -1) d_RR_readName_22 (by decide) ?_
    exact g_ireturn rfl rfl (by omega) (by omega) d_RR_readName_23 ⟨_, rfl, rfl, fun _ _ _ => rfl, Or.inr ⟨fun q => hf q.1, rfl, rfl⟩⟩
/-- what a step over a rule leaves: the answer, the place, the rule -/
def rr_post (E : gE) (N : Nat) (M : gM) (R t n : Nat) (ts : Nat → Nat) (told r : Nat) (s : sR) : Option Value → Nat → gM → Prop := fun v N' M' => v = some (.int (bI s.1)) ∧ N' = N ∧ o_rr E M' R t n ts s.2.1 told ∧ (∃ z', o_rule E M' r z' ∧ r_eq z' s.2.2) ∧ rr_fr R r M M'
theorem k_RR_readGreatest (h : o_rr E M R t n ts a told) (hr : o_rule E M r z) (hz : r_eq z w) (hd : R + 2 < r) (f v : Nat) (hf : f < 4) (hv : v ≤ mst f) : Ctr l E y_RR_readGreatest 3 [.ref R, .ref r, .int (nI f), .int (nI v)] N M 0 0 (g_ret (rr_post E N M R t n ts told r (sGr n ts f v a w))) := by
  have h0 := h
  obtain ⟨h1, h2, h3, h4⟩ := h
  have h2a := h2.1
  have hra := hr.1
  have hm := mst_lt f
  refine ctr_of [some (.ref R), some (.ref r), some (.int (nI f)), some (.int (nI v))] (by decide) w_604 rfl rfl (Nat.le_of_ble_eq_true rfl) (fun Γ => ?_)
  refine g_aload_n d_RR_readGreatest_0 rfl ?_
  refine g_get f_RR_14 (by assumption) rfl d_RR_readGreatest_1 ?_
  refine g_iload_n d_RR_readGreatest_4 rfl ?_
  refine g_iload_n d_RR_readGreatest_5 rfl ?_
  refine g_callSN sn_RR_85 sv_RD_greatestOf (g_of_val (k_RD_greatestOf f hf)) (by omega) rfl (by omega) (by omega) rfl (Nat.le_of_ble_eq_true rfl) d_RR_readGreatest_6 ?_
  rintro _ _ _ ⟨rfl, rfl, rfl⟩
  refine g_callV s_RR_89 sv_Pi_isNumber (by assumption) rfl (g_of_val (k_Pi_isNumber h2 h3 v (mst f) (by omega) (by omega))) (by omega) rfl (by omega) (by omega) rfl (Nat.le_of_ble_eq_true rfl) d_RR_readGreatest_9 ?_
  rintro _ _ _ ⟨rfl, rfl, rfl⟩
  first | refine g_ifB_ne (tgt := 17) d_RR_readGreatest_12 (by decide) (fun hb_12 => ?_) (fun hb_12 => ?_) | refine g_ifN_ne (tgt := 17) d_RR_readGreatest_12 (by decide) (by omega) (fun hb_12 => ?_) (fun hb_12 => ?_)
  · have e0 : sGr n ts f v a w = (true, nx n ts a, nrw w f v (nv n ts a)) := if_pos hb_12
    rw [e0]
    have hnb := hb_12
    simp only [nb, Bool.and_eq_true, decide_eq_true_eq] at hnb
    refine g_aload_n d_RR_readGreatest_17 rfl ?_
    refine g_iload_n d_RR_readGreatest_18 rfl ?_
    refine g_iload_n d_RR_readGreatest_19 rfl ?_
    refine g_aload_n d_RR_readGreatest_20 rfl ?_
    refine g_get f_RR_14 (by assumption) rfl d_RR_readGreatest_21 ?_
    refine g_callV s_RR_93 sv_Pi_number (by assumption) rfl (g_of_val (k_Pi_number h2 h3 hnb.1 hnb.2.1)) (by omega) rfl (by omega) (by omega) rfl (Nat.le_of_ble_eq_true rfl) d_RR_readGreatest_24 ?_
    rintro _ _ _ ⟨rfl, rfl, rfl⟩
    refine g_callV s_RR_103 sv_Ru_narrow (by assumption) rfl (k_Ru_narrow hr f v (nv n ts a) hf) (by omega) rfl (by omega) (by omega) rfl (Nat.le_of_ble_eq_true rfl) d_RR_readGreatest_27 ?_
    rintro v' N' M1 ⟨rfl, rfl, hr1, hf1⟩
    have h1' := (hf1 R (by omega) (by omega)).trans h1
    have h2' : o_pc M1 (R + 1) t n ts a := ⟨(hf1 _ (by omega) (by omega)).trans h2.1, h2.2⟩
    have h2'a := h2'.1
    have h3' := h3.kept (M' := M1) (fun x _ _ => hf1 x (by omega) (by omega))
    refine g_aload_n d_RR_readGreatest_30 rfl ?_
    refine g_get f_RR_14 (by assumption) rfl d_RR_readGreatest_31 ?_
    refine g_callV s_RR_51 sv_Pi_step (by assumption) rfl (k_Pi_next h2' h3' ⟨by omega, by omega⟩) (by omega) rfl (by omega) (by omega) rfl (Nat.le_of_ble_eq_true rfl) d_RR_readGreatest_34 ?_
    rintro v' N' M2 ⟨rfl, rfl, hp, hf2⟩
    refine g_iconst (v := nI 1) d_RR_readGreatest_37 (by decide) ?_
    exact g_ireturn rfl rfl (by omega) (by omega) d_RR_readGreatest_38 ⟨_, rfl, rfl, rfl, ⟨(hf2 _ (by omega)).trans h1', hp, h3'.kept (fun x _ _ => hf2 x (by omega)), h4⟩, ⟨_, hr1.kept (fun x _ _ => hf2 x (by omega)), r_eq_nrw hz f v (nv n ts a)⟩, fun x x1 x2 x3 => (hf2 x x2).trans (hf1 x (by omega) (by omega))⟩
  · have e0 : sGr n ts f v a w = (false, a, w) := if_neg (by rw [hb_12]; decide)
    rw [e0]
    refine g_iconst (v := nI 0) d_RR_readGreatest_15 (by decide) ?_
    exact g_ireturn rfl rfl (by omega) (by omega) d_RR_readGreatest_16 ⟨_, rfl, rfl, rfl, h0, ⟨z, hr, hz⟩, fun _ _ _ _ => rfl⟩
theorem bts_le : ∀ f, f < 4 → bts f ≤ 10 := by decide
theorem k_RR_readHighBits (h : o_rr E M R t n ts a told) (hr : o_rule E M r z) (hz : r_eq z w) (hd : R + 2 < r) (f v : Nat) (hf : f < 4) (hv : v ≤ mst f) : Ctr l E y_RR_readHighBits 3 [.ref R, .ref r, .int (nI f), .int (nI v)] N M 0 0 (g_ret (rr_post E N M R t n ts told r (sHb n ts f v a w))) := by
  have h0 := h
  obtain ⟨h1, h2, h3, h4⟩ := h
  have h2a := h2.1
  have hra := hr.1
  have hm := mst_lt f
  have hbt := bts_le f hf
  refine ctr_of [some (.ref R), some (.ref r), some (.int (nI f)), some (.int (nI v)), none, none] (by decide) w_609 rfl rfl (Nat.le_of_ble_eq_true rfl) (fun Γ => ?_)
  refine g_aload_n d_RR_readHighBits_0 rfl ?_
  refine g_get f_RR_14 (by assumption) rfl d_RR_readHighBits_1 ?_
  refine g_iconst (v := nI 0) d_RR_readHighBits_4 (by decide) ?_
  refine g_getsN z_BITS fn_RR_107 d_RR_readHighBits_5 ?_
  refine g_iload_n d_RR_readHighBits_8 rfl ?_
  refine g_tald f q_BITS rfl hf (by decide) d_RR_readHighBits_9 ?_
  refine g_callV s_RR_89 sv_Pi_isNumber (by assumption) rfl (g_of_val (k_Pi_isNumber h2 h3 0 (bts f) (by omega) (by omega))) (by omega) rfl (by omega) (by omega) rfl (Nat.le_of_ble_eq_true rfl) d_RR_readHighBits_10 ?_
  rintro _ _ _ ⟨rfl, rfl, rfl⟩
  first | refine g_ifB_ne (tgt := 18) d_RR_readHighBits_13 (by decide) (fun hb_13 => ?_) (fun hb_13 => ?_) | refine g_ifN_ne (tgt := 18) d_RR_readHighBits_13 (by decide) (by omega) (fun hb_13 => ?_) (fun hb_13 => ?_)
  · have e0 : sHb n ts f v a w = (true, nx n ts a, nrw w f (hlo f v (nv n ts a)) (hhi f v (nv n ts a))) := if_pos hb_13
    rw [e0]
    have hnb := hb_13
    simp only [nb, Bool.and_eq_true, decide_eq_true_eq] at hnb
    have hpw : 2 ^ (bts f - nv n ts a) ≤ 2 ^ 10 := Nat.pow_le_pow_right (by omega) (by omega)
    have hpp : 0 < 2 ^ (bts f - nv n ts a) := Nat.two_pow_pos _
    have hlo1 : hlo f v (nv n ts a) ≤ v := Nat.div_mul_le_self _ _
    refine g_getsN z_BITS fn_RR_107 d_RR_readHighBits_18 ?_
    refine g_iload_n d_RR_readHighBits_21 rfl ?_
    refine g_tald f q_BITS rfl hf (by decide) d_RR_readHighBits_22 ?_
    refine g_aload_n d_RR_readHighBits_23 rfl ?_
    refine g_get f_RR_14 (by assumption) rfl d_RR_readHighBits_24 ?_
    refine g_callV s_RR_93 sv_Pi_number (by assumption) rfl (g_of_val (k_Pi_number h2 h3 hnb.1 hnb.2.1)) (by omega) rfl (by omega) (by omega) rfl (Nat.le_of_ble_eq_true rfl) d_RR_readHighBits_27 ?_
    rintro _ _ _ ⟨rfl, rfl, rfl⟩
    refine g_isub d_RR_readHighBits_30 ?_
    refine g_eqi (pk_sub (a := bts f) (b := nv n ts a) hnb.2.2.2) ?_
    refine g_istore d_RR_readHighBits_31 (by decide) ?_
    refine g_iload_n d_RR_readHighBits_33 rfl ?_
    refine g_iload d_RR_readHighBits_34 rfl ?_
    refine g_ishr d_RR_readHighBits_36 ?_
    refine g_eqi (nI_shr (by omega) (by omega)) ?_
    refine g_iload d_RR_readHighBits_37 rfl ?_
    refine g_ishl d_RR_readHighBits_39 ?_
    refine g_eqi (z := nI (hlo f v (nv n ts a))) (nI_shl (by omega) (by show hlo f v (nv n ts a) < 2 ^ 32; omega)) ?_
    refine g_istore d_RR_readHighBits_40 (by decide) ?_
    refine g_aload_n d_RR_readHighBits_42 rfl ?_
    refine g_iload_n d_RR_readHighBits_43 rfl ?_
    refine g_iload d_RR_readHighBits_44 rfl ?_
    refine g_iload d_RR_readHighBits_46 rfl ?_
    refine g_iconst (v := nI 1) d_RR_readHighBits_48 (by decide) ?_
    refine g_iload d_RR_readHighBits_49 rfl ?_
    refine g_ishl d_RR_readHighBits_51 ?_
    refine g_eqi (nI_bit (by omega)) ?_
    refine g_iadd d_RR_readHighBits_52 ?_
    refine g_eqi (nI_add _ _) ?_
    refine g_iconst (v := nI 1) d_RR_readHighBits_53 (by decide) ?_
    refine g_isub d_RR_readHighBits_54 ?_
    refine g_eqi (z := nI (hhi f v (nv n ts a))) (pk_sub (by omega)) ?_
    refine g_callV s_RR_103 sv_Ru_narrow (by assumption) rfl (k_Ru_narrow hr f (hlo f v (nv n ts a)) (hhi f v (nv n ts a)) hf) (by omega) rfl (by omega) (by omega) rfl (Nat.le_of_ble_eq_true rfl) d_RR_readHighBits_55 ?_
    rintro v' N' M1 ⟨rfl, rfl, hr1, hf1⟩
    have h1' := (hf1 R (by omega) (by omega)).trans h1
    have h2' : o_pc M1 (R + 1) t n ts a := ⟨(hf1 _ (by omega) (by omega)).trans h2.1, h2.2⟩
    have h2'a := h2'.1
    have h3' := h3.kept (M' := M1) (fun x _ _ => hf1 x (by omega) (by omega))
    refine g_aload_n d_RR_readHighBits_58 rfl ?_
    refine g_get f_RR_14 (by assumption) rfl d_RR_readHighBits_59 ?_
    refine g_callV s_RR_51 sv_Pi_step (by assumption) rfl (k_Pi_next h2' h3' ⟨by omega, by omega⟩) (by omega) rfl (by omega) (by omega) rfl (Nat.le_of_ble_eq_true rfl) d_RR_readHighBits_62 ?_
    rintro v' N' M2 ⟨rfl, rfl, hp, hf2⟩
    refine g_iconst (v := nI 1) d_RR_readHighBits_65 (by decide) ?_
    exact g_ireturn rfl rfl (by omega) (by omega) d_RR_readHighBits_66 ⟨_, rfl, rfl, rfl, ⟨(hf2 _ (by omega)).trans h1', hp, h3'.kept (fun x _ _ => hf2 x (by omega)), h4⟩, ⟨_, hr1.kept (fun x _ _ => hf2 x (by omega)), r_eq_nrw hz f _ _⟩, fun x x1 x2 x3 => (hf2 x x2).trans (hf1 x (by omega) (by omega))⟩
  · have e0 : sHb n ts f v a w = (false, a, w) := if_neg (by rw [hb_13]; decide)
    rw [e0]
    refine g_iconst (v := nI 0) d_RR_readHighBits_16 (by decide) ?_
    exact g_ireturn rfl rfl (by omega) (by omega) d_RR_readHighBits_17 ⟨_, rfl, rfl, rfl, h0, ⟨z, hr, hz⟩, fun _ _ _ _ => rfl⟩
theorem rr_fr.trans {M1 M2 : gM} (h1 : rr_fr R r M M1) (h2 : rr_fr R r M1 M2) : rr_fr R r M M2 := fun x a b c => (h2 x a b c).trans (h1 x a b c)
theorem k_RR_readRange (h : o_rr E M R t n ts a told) (hr : o_rule E M r z) (hz : r_eq z w) (hd : R + 2 < r) (f : Nat) (hf : f < 4) : Ctr l E y_RR_readRange 6 [.ref R, .ref r, .int (nI f)] N M 0 0 (g_ret (rr_post E N M R t n ts told r (sRg n ts f a w))) := by
  have h0 := h
  obtain ⟨h1, h2, h3, h4⟩ := h
  have h2a := h2.1
  have hra := hr.1
  have hm := mst_lt f
  refine ctr_of [some (.ref R), some (.ref r), some (.int (nI f)), none] (by decide) w_585 rfl rfl (Nat.le_of_ble_eq_true rfl) (fun Γ => ?_)
  refine g_aload_n d_RR_readRange_0 rfl ?_
  refine g_get f_RR_14 (by assumption) rfl d_RR_readRange_1 ?_
  refine g_ldcS (i := 10) rfl d_RR_readRange_4 ?_
  refine g_callV s_RR_81 sv_Pi_isWord (by assumption) rfl (g_of_val (k_Pi_isWord h2 h3 10 (by omega))) (by omega) rfl (by omega) (by omega) rfl (Nat.le_of_ble_eq_true rfl) d_RR_readRange_6 ?_
  rintro _ _ _ ⟨rfl, rfl, rfl⟩
  first | refine g_ifB_eq (tgt := 21) d_RR_readRange_9 (by decide) (fun hb_9 => ?_) (fun hb_9 => ?_) | refine g_ifN_eq (tgt := 21) d_RR_readRange_9 (by decide) (by omega) (fun hb_9 => ?_) (fun hb_9 => ?_)
  · refine g_aload_n d_RR_readRange_21 rfl ?_
    refine g_get f_RR_14 (by assumption) rfl d_RR_readRange_22 ?_
    refine g_iconst (v := nI 0) d_RR_readRange_25 (by decide) ?_
    refine g_iload_n d_RR_readRange_26 rfl ?_
    refine g_callSN sn_RR_85 sv_RD_greatestOf (g_of_val (k_RD_greatestOf f hf)) (by omega) rfl (by omega) (by omega) rfl (Nat.le_of_ble_eq_true rfl) d_RR_readRange_27 ?_
    rintro _ _ _ ⟨rfl, rfl, rfl⟩
    refine g_callV s_RR_89 sv_Pi_isNumber (by assumption) rfl (g_of_val (k_Pi_isNumber h2 h3 0 (mst f) (by omega) (by omega))) (by omega) rfl (by omega) (by omega) rfl (Nat.le_of_ble_eq_true rfl) d_RR_readRange_30 ?_
    rintro _ _ _ ⟨rfl, rfl, rfl⟩
    first | refine g_ifB_ne (tgt := 38) d_RR_readRange_33 (by decide) (fun hb_33 => ?_) (fun hb_33 => ?_) | refine g_ifN_ne (tgt := 38) d_RR_readRange_33 (by decide) (by omega) (fun hb_33 => ?_) (fun hb_33 => ?_)
    · have hnb := hb_33
      simp only [nb, Bool.and_eq_true, decide_eq_true_eq] at hnb
      refine g_aload_n d_RR_readRange_38 rfl ?_
      refine g_get f_RR_14 (by assumption) rfl d_RR_readRange_39 ?_
      refine g_callV s_RR_93 sv_Pi_number (by assumption) rfl (g_of_val (k_Pi_number h2 h3 hnb.1 hnb.2.1)) (by omega) rfl (by omega) (by omega) rfl (Nat.le_of_ble_eq_true rfl) d_RR_readRange_42 ?_
      rintro _ _ _ ⟨rfl, rfl, rfl⟩
      refine g_istore_n d_RR_readRange_45 (by decide) ?_
      refine g_aload_n d_RR_readRange_46 rfl ?_
      refine g_get f_RR_14 (by assumption) rfl d_RR_readRange_47 ?_
      refine g_callV s_RR_51 sv_Pi_step (by assumption) rfl (k_Pi_next h2 h3 ⟨by omega, by omega⟩) (by omega) rfl (by omega) (by omega) rfl (Nat.le_of_ble_eq_true rfl) d_RR_readRange_50 ?_
      rintro v' N' M1 ⟨rfl, rfl, hp, hf1⟩
      have H1 := h0.next hp hf1
      have H1a := H1.1
      have hr1 := hr.kept (M' := M1) (fun x _ _ => hf1 x (by omega))
      have hr1a := hr1.1
      refine g_aload_n d_RR_readRange_53 rfl ?_
      refine g_bipush (v := nI 45) d_RR_readRange_54 (by decide) ?_
      refine g_callV s_RR_73 sv_RR_skipSign (by assumption) rfl (k_RR_skipSign H1 45 (by omega)) (by omega) rfl (by omega) (by omega) rfl (Nat.le_of_ble_eq_true rfl) d_RR_readRange_56 ?_
      rintro v' N' M2 ⟨rfl, rfl, H2, hf2⟩
      have H2a := H2.1
      have hr2 := hr1.kept (M' := M2) (fun x _ _ => hf2 x (by omega))
      have hr2a := hr2.1
      first | refine g_ifB_eq (tgt := 70) d_RR_readRange_59 (by decide) (fun hb_59 => ?_) (fun hb_59 => ?_) | refine g_ifN_eq (tgt := 70) d_RR_readRange_59 (by decide) (by omega) (fun hb_59 => ?_) (fun hb_59 => ?_)
      · rw [if_neg (by rw [hb_59]; decide)] at H2
        refine g_aload_n d_RR_readRange_70 rfl ?_
        refine g_bipush (v := nI 47) d_RR_readRange_71 (by decide) ?_
        refine g_callV s_RR_73 sv_RR_skipSign (by assumption) rfl (k_RR_skipSign H2 47 (by omega)) (by omega) rfl (by omega) (by omega) rfl (Nat.le_of_ble_eq_true rfl) d_RR_readRange_73 ?_
        rintro v' N' M3 ⟨rfl, rfl, H3, hf3⟩
        have H3a := H3.1
        have hr3 := hr2.kept (M' := M3) (fun x _ _ => hf3 x (by omega))
        have hr3a := hr3.1
        first | refine g_ifB_eq (tgt := 87) d_RR_readRange_76 (by decide) (fun hb_76 => ?_) (fun hb_76 => ?_) | refine g_ifN_eq (tgt := 87) d_RR_readRange_76 (by decide) (by omega) (fun hb_76 => ?_) (fun hb_76 => ?_)
        · rw [if_neg (by rw [hb_76]; decide)] at H3
          have e0 : sRg n ts f a w = (true, nx n ts a, nrw w f (nv n ts a) (nv n ts a)) := by
            unfold sRg
            rw [if_neg (by rw [hb_9]; decide), if_pos hb_33, if_neg (by rw [hb_59]; decide), if_neg (by rw [hb_76]; decide)]
          rw [e0]
          refine g_aload_n d_RR_readRange_87 rfl ?_
          refine g_iload_n d_RR_readRange_88 rfl ?_
          refine g_iload_n d_RR_readRange_89 rfl ?_
          refine g_iload_n d_RR_readRange_90 rfl ?_
          refine g_callV s_RR_103 sv_Ru_narrow (by assumption) rfl (k_Ru_narrow hr3 f (nv n ts a) (nv n ts a) hf) (by omega) rfl (by omega) (by omega) rfl (Nat.le_of_ble_eq_true rfl) d_RR_readRange_91 ?_
          rintro v' N' M4 ⟨rfl, rfl, hr4, hf4⟩
          obtain ⟨g1, g2, g3, g4⟩ := H3
          refine g_iconst (v := nI 1) d_RR_readRange_94 (by decide) ?_
          exact g_ireturn rfl rfl (by omega) (by omega) d_RR_readRange_95 ⟨_, rfl, rfl, rfl, ⟨(hf4 _ (by omega) (by omega)).trans g1, ⟨(hf4 _ (by omega) (by omega)).trans g2.1, g2.2⟩, g3.kept (fun x _ _ => hf4 x (by omega) (by omega)), h4⟩, ⟨_, hr4, r_eq_nrw hz f _ _⟩, fun x x1 x2 x3 => (hf4 x (by omega) (by omega)).trans ((hf3 x x2).trans ((hf2 x x2).trans (hf1 x x2)))⟩
        · rw [if_pos hb_76] at H3
          have e0 : sRg n ts f a w = sHb n ts f (nv n ts a) (nx n ts (nx n ts a)) w := by
            unfold sRg
            rw [if_neg (by rw [hb_9]; decide), if_pos hb_33, if_neg (by rw [hb_59]; decide), if_pos hb_76]
          rw [e0]
          refine g_aload_n d_RR_readRange_79 rfl ?_
          refine g_aload_n d_RR_readRange_80 rfl ?_
          refine g_iload_n d_RR_readRange_81 rfl ?_
          refine g_iload_n d_RR_readRange_82 rfl ?_
          refine g_callV s_RR_100 sv_RR_readHighBits (by assumption) rfl (k_RR_readHighBits H3 hr3 hz hd f (nv n ts a) hf hnb.2.2.2) (by omega) rfl (by omega) (by omega) rfl (Nat.le_of_ble_eq_true rfl) d_RR_readRange_83 ?_
          rintro v' N' M4 ⟨rfl, rfl, H4, hr4, hf4⟩
          exact g_ireturn rfl (bI_nar _) (by omega) (by omega) d_RR_readRange_86 ⟨_, rfl, rfl, rfl, H4, hr4, fun x x1 x2 x3 => (hf4 x x1 x2 x3).trans ((hf3 x x2).trans ((hf2 x x2).trans (hf1 x x2)))⟩
      · rw [if_pos hb_59] at H2
        have e0 : sRg n ts f a w = sGr n ts f (nv n ts a) (nx n ts (nx n ts a)) w := by
          unfold sRg
          rw [if_neg (by rw [hb_9]; decide), if_pos hb_33, if_pos hb_59]
        rw [e0]
        refine g_aload_n d_RR_readRange_62 rfl ?_
        refine g_aload_n d_RR_readRange_63 rfl ?_
        refine g_iload_n d_RR_readRange_64 rfl ?_
        refine g_iload_n d_RR_readRange_65 rfl ?_
        refine g_callV s_RR_96 sv_RR_readGreatest (by assumption) rfl (k_RR_readGreatest H2 hr2 hz hd f (nv n ts a) hf hnb.2.2.2) (by omega) rfl (by omega) (by omega) rfl (Nat.le_of_ble_eq_true rfl) d_RR_readRange_66 ?_
        rintro v' N' M3 ⟨rfl, rfl, H3, hr3, hf3⟩
        exact g_ireturn rfl (bI_nar _) (by omega) (by omega) d_RR_readRange_69 ⟨_, rfl, rfl, rfl, H3, hr3, fun x x1 x2 x3 => (hf3 x x1 x2 x3).trans ((hf2 x x2).trans (hf1 x x2))⟩
    · have e0 : sRg n ts f a w = (false, a, w) := by
        unfold sRg
        rw [if_neg (by rw [hb_9]; decide), if_neg (by rw [hb_33]; decide)]
      rw [e0]
      refine g_iconst (v := nI 0) d_RR_readRange_36 (by decide) ?_
      exact g_ireturn rfl rfl (by omega) (by omega) d_RR_readRange_37 ⟨_, rfl, rfl, rfl, h0, ⟨z, hr, hz⟩, fun _ _ _ _ => rfl⟩
  · have e0 : sRg n ts f a w = (true, nx n ts a, w) := if_pos hb_9
    rw [e0]
    refine g_aload_n d_RR_readRange_12 rfl ?_
    refine g_get f_RR_14 (by assumption) rfl d_RR_readRange_13 ?_
    refine g_callV s_RR_51 sv_Pi_step (by assumption) rfl (k_Pi_next h2 h3 ⟨by omega, by omega⟩) (by omega) rfl (by omega) (by omega) rfl (Nat.le_of_ble_eq_true rfl) d_RR_readRange_16 ?_
    rintro v' N' M1 ⟨rfl, rfl, hp, hf1⟩
    refine g_iconst (v := nI 1) d_RR_readRange_19 (by decide) ?_
    exact g_ireturn rfl rfl (by omega) (by omega) d_RR_readRange_20 ⟨_, rfl, rfl, rfl, h0.next hp hf1, ⟨z, hr.kept (fun x _ _ => hf1 x (by omega)), hz⟩, fun x x1 x2 x3 => hf1 x x2⟩
end READER

