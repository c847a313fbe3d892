/-! reading: what the steps of the reader do -/
def vh (n : Nat) (ts : Nat → Nat) (a : Nat) : Nat := fi (fun i => wd n ts a (3 + i)) 3
def fh (n : Nat) (ts : Nat → Nat) (a : Nat) : Nat := fi (fun i => wd n ts a (6 + i)) 4
abbrev sR : Type := Bool × Nat × Rl
def nrw (z : Rl) (f a b : Nat) : Rl := (z.1, va_up z.2.1 f a, va_up z.2.2 f b)
def sGr (n : Nat) (ts : Nat → Nat) (f v a : Nat) (z : Rl) : sR := if nb n ts a v (mst f) = true then (true, nx n ts a, nrw z f v (nv n ts a)) else (false, a, z)
def hlo (f v w : Nat) : Nat := v / 2 ^ (bts f - w) * 2 ^ (bts f - w)
def hhi (f v w : Nat) : Nat := hlo f v w + 2 ^ (bts f - w) - 1
def sHb (n : Nat) (ts : Nat → Nat) (f v a : Nat) (z : Rl) : sR := if nb n ts a 0 (bts f) = true then (true, nx n ts a, nrw z f (hlo f v (nv n ts a)) (hhi f v (nv n ts a))) else (false, a, z)
def sRg (n : Nat) (ts : Nat → Nat) (f a : Nat) (z : Rl) : sR :=
  if wd n ts a 10 = true then (true, nx n ts a, z) else if nb n ts a 0 (mst f) = true then
    (if sg n ts (nx n ts a) 45 = true then sGr n ts f (nv n ts a) (nx n ts (nx n ts a)) z else if sg n ts (nx n ts a) 47 = true then sHb n ts f (nv n ts a) (nx n ts (nx n ts a)) z else (true, nx n ts a, nrw z f (nv n ts a) (nv n ts a)))
  else (false, a, z)
def sFs (n : Nat) (ts : Nat → Nat) : Nat → Nat → Nat → Rl → sR
  | 0, _, a, z => if sg n ts a 59 = true then (true, nx n ts a, z) else (false, a, z)
  | k + 1, told, a, z => if sg n ts a 59 = true then (true, nx n ts a, z) else
      if fh n ts a < 4 ∧ told.testBit (fh n ts a) = false then
        (if (sRg n ts (fh n ts a) (nx n ts a) z).1 = true then sFs n ts k (told ||| 2 ^ fh n ts a) (sRg n ts (fh n ts a) (nx n ts a) z).2.1 (sRg n ts (fh n ts a) (nx n ts a) z).2.2 else sRg n ts (fh n ts a) (nx n ts a) z)
      else (false, a, z)
def sRu (n : Nat) (ts : Nat → Nat) (a : Nat) (z : Rl) : sR := if vh n ts a < 3 then sFs n ts 4 0 (nx n ts a) (vh n ts a, fun _ => 0, mst) else (false, a, z)
theorem r_eq_nrw {z w : Rl} (h : r_eq z w) (f a b : Nat) : r_eq (nrw z f a b) (nrw w f a b) := by
  refine ⟨h.1, fun g hg => ?_⟩
  have := h.2 g hg
  unfold nrw va_up
  constructor
  · show (if g = f then a else z.2.1 g) = (if g = f then a else w.2.1 g)
    split
    · rfl
    · exact this.1
  · show (if g = f then b else z.2.2 g) = (if g = f then b else w.2.2 g)
    split
    · rfl
    · exact this.2
theorem nx_le {n : Nat} {ts : Nat → Nat} {a : Nat} (ha : a ≤ n) : nx n ts a ≤ n := (bh_in _ _ _ _).2 (tE_in ha).2
/-- the reader at R, with the text at t -/
def o_rr (E : gE) (M : gM) (R t n : Nat) (ts : Nat → Nat) (a told : Nat) : Prop := M R = some (.inr (3, [.ref (R + 1), .ref (R + 2), .int (nI told)])) ∧ o_pc M (R + 1) t n ts a ∧ o_text E M t n ts ∧ t + 1 < R
/-- nothing changes but the reader, its pieces and a rule -/
def rr_fr (R r : Nat) (M M' : gM) : Prop := ∀ x, x ≠ R → x ≠ R + 1 → (x < r ∨ r + 2 < x) → M' x = M x
section GLOOK
variable {l : Launch} {E : gE} {y : MethodName} {cc : ByteArray} {nL : Nat} {ret : Option FieldType} {tb : List ExceptionTableEntry} {d : Nat} {Q : Outcome → Nat → gM → Prop} {mc ms : Nat} {Γ : gT} {pc : Nat} {L : List (Option Value)} {st : List Value} {N : Nat} {M : gM} {k n : Nat}
theorem g_lookup {dflt : Int} {ps : Array (Int × Int)} {len : Nat} {x : Int32} {off : Int} {tgt : Nat} (dg : decode cc pc = .ok (.lookupswitch dflt ps, len)) (hp : (ps.toList.zip (ps.toList.drop 1)).all (fun (a, next) => a.1 < next.1) = true) (ho : Op.lookupswitch.offset ps.toList dflt x.toInt = off) (ht : (pc : Int) + off = (tgt : Int)) (kk : G l E y cc nL ret tb d Q mc ms Γ tgt L st N M k n) : G l E y cc nL ret tb d Q mc ms Γ pc L (.int x :: st) N M k n :=
  fun hc H locs ls hl hr hq => lv_lookup hc.x hc.b dg hp ho ht (kk hc H locs ls hl hr hq)
end GLOOK
section READER
variable {l : Launch} {E : gE} {N : Nat} {M : gM} {R t n : Nat} {ts : Nat → Nat} {a told : Nat} {r : Nat} {z w : Rl}
theorem k_RR_verdictName (i : Nat) (hi : i < 3) : Ctr l E y_RR_verdictName 0 [.int (nI i)] N M 0 0 (g_val (some (.ref (g_ad E (2 + (3 + i))))) N M) := by
  have hc : i = 0 ∨ i = 1 ∨ i = 2 := by omega
  rcases hc with rfl | rfl | rfl
  · refine ctr_of [some (.int (nI 0))] (by decide) w_493 rfl rfl (Nat.le_of_ble_eq_true rfl) (fun Γ => ?_)
    refine g_iload_n d_RR_verdictName_0 rfl ?_
    refine g_lookup (tgt := 28) (off := 27) d_RR_verdictName_1 (by decide) (by decide) (by decide) ?_
    refine g_ldcS (i := 3) rfl d_RR_verdictName_28 ?_
    exact g_areturn rfl (Or.inl ⟨_, rfl⟩) (by omega) (by omega) d_RR_verdictName_30 ⟨rfl, rfl, rfl⟩
  · refine ctr_of [some (.int (nI 1))] (by decide) w_493 rfl rfl (Nat.le_of_ble_eq_true rfl) (fun Γ => ?_)
    refine g_iload_n d_RR_verdictName_0 rfl ?_
    refine g_lookup (tgt := 31) (off := 30) d_RR_verdictName_1 (by decide) (by decide) (by decide) ?_
    refine g_ldcS (i := 4) rfl d_RR_verdictName_31 ?_
    exact g_areturn rfl (Or.inl ⟨_, rfl⟩) (by omega) (by omega) d_RR_verdictName_33 ⟨rfl, rfl, rfl⟩
  · refine ctr_of [some (.int (nI 2))] (by decide) w_493 rfl rfl (Nat.le_of_ble_eq_true rfl) (fun Γ => ?_)
    refine g_iload_n d_RR_verdictName_0 rfl ?_
    refine g_lookup (tgt := 34) (off := 33) d_RR_verdictName_1 (by decide) (by decide) (by decide) ?_
    refine g_ldcS (i := 5) rfl d_RR_verdictName_34 ?_
    exact g_areturn rfl (Or.inl ⟨_, rfl⟩) (by omega) (by omega) d_RR_verdictName_36 ⟨rfl, rfl, rfl⟩
theorem k_RR_fieldName (i : Nat) (hi : i < 4) : Ctr l E y_RR_fieldName 0 [.int (nI i)] N M 0 0 (g_val (some (.ref (g_ad E (2 + (6 + i))))) N M) := by
  have hc : i = 0 ∨ i = 1 ∨ i = 2 ∨ i = 3 := by omega
  rcases hc with rfl | rfl | rfl | rfl
  · refine ctr_of [some (.int (nI 0))] (by decide) w_577 rfl rfl (Nat.le_of_ble_eq_true rfl) (fun Γ => ?_)
    refine g_iload_n d_RR_fieldName_0 rfl ?_
    refine g_tableIn (tgt := 28) (off := 27) d_RR_fieldName_1 (by decide) (by decide) (by decide) (by decide) ?_
    refine g_ldcS (i := 6) rfl d_RR_fieldName_28 ?_
    exact g_areturn rfl (Or.inl ⟨_, rfl⟩) (by omega) (by omega) d_RR_fieldName_30 ⟨rfl, rfl, rfl⟩
  · refine ctr_of [some (.int (nI 1))] (by decide) w_577 rfl rfl (Nat.le_of_ble_eq_true rfl) (fun Γ => ?_)
    refine g_iload_n d_RR_fieldName_0 rfl ?_
    refine g_tableIn (tgt := 31) (off := 30) d_RR_fieldName_1 (by decide) (by decide) (by decide) (by decide) ?_
    refine g_ldcS (i := 7) rfl d_RR_fieldName_31 ?_
    exact g_areturn rfl (Or.inl ⟨_, rfl⟩) (by omega) (by omega) d_RR_fieldName_33 ⟨rfl, rfl, rfl⟩
  · refine ctr_of [some (.int (nI 2))] (by decide) w_577 rfl rfl (Nat.le_of_ble_eq_true rfl) (fun Γ => ?_)
    refine g_iload_n d_RR_fieldName_0 rfl ?_
    refine g_tableIn (tgt := 34) (off := 33) d_RR_fieldName_1 (by decide) (by decide) (by decide) (by decide) ?_
    refine g_ldcS (i := 8) rfl d_RR_fieldName_34 ?_
    exact g_areturn rfl (Or.inl ⟨_, rfl⟩) (by omega) (by omega) d_RR_fieldName_36 ⟨rfl, rfl, rfl⟩
  · refine ctr_of [some (.int (nI 3))] (by decide) w_577 rfl rfl (Nat.le_of_ble_eq_true rfl) (fun Γ => ?_)
    refine g_iload_n d_RR_fieldName_0 rfl ?_
    refine g_tableOut (tgt := 37) d_RR_fieldName_1 (by decide) (by decide) ?_
    refine g_ldcS (i := 9) rfl d_RR_fieldName_37 ?_
    exact g_areturn rfl (Or.inl ⟨_, rfl⟩) (by omega) (by omega) d_RR_fieldName_39 ⟨rfl, rfl, rfl⟩
theorem k_RR_verdictHere (h : o_rr E M R t n ts a told) : Ctr l E y_RR_verdictHere 6 [.ref R] N M 0 0 (g_val (some (.int (fI (vh n ts a) 3))) N M) := by
  obtain ⟨h1, h2, h3, h4⟩ := h
  have h2a := h2.1
  refine ctr_of [some (.ref R), none] (by decide) w_490 rfl rfl (Nat.le_of_ble_eq_true rfl) (fun Γ => ?_)
  refine g_iconst (v := nI 0) d_RR_verdictHere_0 (by decide) ?_
  refine g_istore_n d_RR_verdictHere_1 (by decide) ?_
  refine g_for (P := fun i => (∀ j, j < i → wd n ts a (3 + j) = false) → G _ _ _ _ _ _ _ _ _ _ _ _ 2 [some (.ref R), some (.int (nI i))] [] N M 0 0) (e := 3) ?_ ?_ 0 (by omega) (fun j hj => by omega)
  · intro hn
    refine g_iload_n d_RR_verdictHere_2 rfl ?_
    refine g_iconst (v := nI 3) d_RR_verdictHere_3 (by decide) ?_
    refine g_icmpN_ge (tgt := 29) d_RR_verdictHere_4 (by decide) (by omega) (by omega) (fun hb_4 => ?_) (fun hb_4 => ?_)
    · refine g_iconst (v := -1) d_RR_verdictHere_29 (by decide) ?_
      refine g_eqi (z := fI (vh n ts a) 3) (by unfold vh; rw [fi_none hn]; unfold fI; rw [if_neg (by omega)]) ?_
      exact g_ireturn rfl (by first | rfl | exact bI_nar _) (by omega) (by omega) d_RR_verdictHere_30 ⟨rfl, rfl, rfl⟩
    · omega
  · intro i hi ih hn
    refine g_iload_n d_RR_verdictHere_2 rfl ?_
    refine g_iconst (v := nI 3) d_RR_verdictHere_3 (by decide) ?_
    refine g_icmpN_ge (tgt := 29) d_RR_verdictHere_4 (by decide) (by omega) (by omega) (fun hb_4 => ?_) (fun hb_4 => ?_)
    · omega
    refine g_aload_n d_RR_verdictHere_7 rfl ?_
    refine g_get f_RR_14 (by assumption) rfl d_RR_verdictHere_8 ?_
    refine g_iload_n d_RR_verdictHere_11 rfl ?_
    refine g_callS s_RR_111 sv_RR_verdictName (g_of_val (k_RR_verdictName i hi)) (by omega) rfl (by omega) (by omega) rfl (Nat.le_of_ble_eq_true rfl) d_RR_verdictHere_12 ?_
    rintro _ _ _ ⟨rfl, rfl, rfl⟩
    refine g_callV s_RR_81 sv_Pi_isWord (by assumption) rfl (g_of_val (k_Pi_isWord h2 h3 (3 + i) (by omega))) (by omega) rfl (by omega) (by omega) rfl (Nat.le_of_ble_eq_true rfl) d_RR_verdictHere_15 ?_
    rintro _ _ _ ⟨rfl, rfl, rfl⟩
    first | refine g_ifB_eq (tgt := 23) d_RR_verdictHere_18 (by decide) (fun hb_18 => ?_) (fun hb_18 => ?_) | refine g_ifN_eq (tgt := 23) d_RR_verdictHere_18 (by decide) (by omega) (fun hb_18 => ?_) (fun hb_18 => ?_)
    · refine g_iinc1 d_RR_verdictHere_23 rfl (by decide) ?_
      refine g_goto (tgt := 2) d_RR_verdictHere_26 (by decide) ?_
      refine ih (fun j hj => ?_)
      by_cases e : j = i
      · rw [e]; exact hb_18
      · exact hn j (by omega)
    · refine g_iload_n d_RR_verdictHere_21 rfl ?_
      refine g_eqi (z := fI (vh n ts a) 3) (by unfold vh; rw [fi_at hi hb_18 hn]; unfold fI; rw [if_pos hi]) ?_
      exact g_ireturn rfl (by first | rfl | exact bI_nar _) (by omega) (by omega) d_RR_verdictHere_22 ⟨rfl, rfl, rfl⟩
theorem k_RR_fieldHere (h : o_rr E M R t n ts a told) : Ctr l E y_RR_fieldHere 6 [.ref R] N M 0 0 (g_val (some (.int (fI (fh n ts a) 4))) N M) := by
  obtain ⟨h1, h2, h3, h4⟩ := h
  have h2a := h2.1
  refine ctr_of [some (.ref R), none] (by decide) w_574 rfl rfl (Nat.le_of_ble_eq_true rfl) (fun Γ => ?_)
  refine g_iconst (v := nI 0) d_RR_fieldHere_0 (by decide) ?_
  refine g_istore_n d_RR_fieldHere_1 (by decide) ?_
  refine g_for (P := fun i => (∀ j, j < i → wd n ts a (6 + j) = false) → G _ _ _ _ _ _ _ _ _ _ _ _ 2 [some (.ref R), some (.int (nI i))] [] N M 0 0) (e := 4) ?_ ?_ 0 (by omega) (fun j hj => by omega)
  · intro hn
    refine g_iload_n d_RR_fieldHere_2 rfl ?_
    refine g_iconst (v := nI 4) d_RR_fieldHere_3 (by decide) ?_
    refine g_icmpN_ge (tgt := 29) d_RR_fieldHere_4 (by decide) (by omega) (by omega) (fun hb_4 => ?_) (fun hb_4 => ?_)
    · refine g_iconst (v := -1) d_RR_fieldHere_29 (by decide) ?_
      refine g_eqi (z := fI (fh n ts a) 4) (by unfold fh; rw [fi_none hn]; unfold fI; rw [if_neg (by omega)]) ?_
      exact g_ireturn rfl (by first | rfl | exact bI_nar _) (by omega) (by omega) d_RR_fieldHere_30 ⟨rfl, rfl, rfl⟩
    · omega
  · intro i hi ih hn
    refine g_iload_n d_RR_fieldHere_2 rfl ?_
    refine g_iconst (v := nI 4) d_RR_fieldHere_3 (by decide) ?_
    refine g_icmpN_ge (tgt := 29) d_RR_fieldHere_4 (by decide) (by omega) (by omega) (fun hb_4 => ?_) (fun hb_4 => ?_)
    · omega
    refine g_aload_n d_RR_fieldHere_7 rfl ?_
    refine g_get f_RR_14 (by assumption) rfl d_RR_fieldHere_8 ?_
    refine g_iload_n d_RR_fieldHere_11 rfl ?_
    refine g_callS s_RR_115 sv_RR_fieldName (g_of_val (k_RR_fieldName i hi)) (by omega) rfl (by omega) (by omega) rfl (Nat.le_of_ble_eq_true rfl) d_RR_fieldHere_12 ?_
    rintro _ _ _ ⟨rfl, rfl, rfl⟩
    refine g_callV s_RR_81 sv_Pi_isWord (by assumption) rfl (g_of_val (k_Pi_isWord h2 h3 (6 + i) (by omega))) (by omega) rfl (by omega) (by omega) rfl (Nat.le_of_ble_eq_true rfl) d_RR_fieldHere_15 ?_
    rintro _ _ _ ⟨rfl, rfl, rfl⟩
    first | refine g_ifB_eq (tgt := 23) d_RR_fieldHere_18 (by decide) (fun hb_18 => ?_) (fun hb_18 => ?_) | refine g_ifN_eq (tgt := 23) d_RR_fieldHere_18 (by decide) (by omega) (fun hb_18 => ?_) (fun hb_18 => ?_)
    · refine g_iinc1 d_RR_fieldHere_23 rfl (by decide) ?_
      refine g_goto (tgt := 2) d_RR_fieldHere_26 (by decide) ?_
      refine ih (fun j hj => ?_)
      by_cases e : j = i
      · rw [e]; exact hb_18
      · exact hn j (by omega)
    · refine g_iload_n d_RR_fieldHere_21 rfl ?_
      refine g_eqi (z := fI (fh n ts a) 4) (by unfold fh; rw [fi_at hi hb_18 hn]; unfold fI; rw [if_pos hi]) ?_
      exact g_ireturn rfl (by first | rfl | exact bI_nar _) (by omega) (by omega) d_RR_fieldHere_22 ⟨rfl, rfl, rfl⟩
/-- the pieces step on, nothing else does -/
theorem o_rr.next {M' : gM} {a' : Nat} (h : o_rr E M R t n ts a told) (hp : o_pc M' (R + 1) t n ts a') (hf : ∀ x, x ≠ R + 1 → M' x = M x) : o_rr E M' R t n ts a' told := by
  obtain ⟨h1, h2, h3, h4⟩ := h
  exact ⟨(hf _ (by omega)).trans h1, hp, h3.kept (fun x _ _ => hf x (by omega)), h4⟩
theorem k_RR_skipSign (h : o_rr E M R t n ts a told) (c : Nat) (hc : c < 128) : Ctr l E y_RR_skipSign 3 [.ref R, .int (nI c)] N M 0 0 (g_ret (fun v N' M' => v = some (.int (bI (sg n ts a c))) ∧ N' = N ∧ o_rr E M' R t n ts (if sg n ts a c = true then nx n ts a else a) told ∧ ∀ x, x ≠ R + 1 → M' x = M x)) := by
  have h0 := h
  obtain ⟨h1, h2, h3, h4⟩ := h
  have h2a := h2.1
  refine ctr_of [some (.ref R), some (.int (nI c))] (by decide) w_600 rfl rfl (Nat.le_of_ble_eq_true rfl) (fun Γ => ?_)
  refine g_aload_n d_RR_skipSign_0 rfl ?_
  refine g_get f_RR_14 (by assumption) rfl d_RR_skipSign_1 ?_
  refine g_iload_n d_RR_skipSign_4 rfl ?_
  refine g_callV s_RR_62 sv_Pi_isSign (by assumption) rfl (g_of_val (k_Pi_isSign h2 h3 c hc)) (by omega) rfl (by omega) (by omega) rfl (Nat.le_of_ble_eq_true rfl) d_RR_skipSign_5 ?_
  rintro _ _ _ ⟨rfl, rfl, rfl⟩
  first | refine g_ifB_ne (tgt := 13) d_RR_skipSign_8 (by decide) (fun hb_8 => ?_) (fun hb_8 => ?_) | refine g_ifN_ne (tgt := 13) d_RR_skipSign_8 (by decide) (by omega) (fun hb_8 => ?_) (fun hb_8 => ?_)
  · refine g_aload_n d_RR_skipSign_13 rfl ?_
    refine g_get f_RR_14 (by assumption) rfl d_RR_skipSign_14 ?_
    refine g_callV s_RR_51 sv_Pi_step (by assumption) rfl (k_Pi_next h2 h3 ⟨by omega, by omega⟩) (by omega) rfl (by omega) (by omega) rfl (Nat.le_of_ble_eq_true rfl) d_RR_skipSign_17 ?_
    rintro v' N' M1 ⟨rfl, rfl, hp, hf⟩
    refine g_iconst (v := nI 1) d_RR_skipSign_20 (by decide) ?_
    refine g_Tr (b := sg n ts a c) hb_8 ?_
    exact g_ireturn rfl (bI_nar _) (by omega) (by omega) d_RR_skipSign_21 ⟨_, rfl, rfl, rfl, by rw [if_pos hb_8]; exact h0.next hp hf, hf⟩
  · refine g_iconst (v := nI 0) d_RR_skipSign_11 (by decide) ?_
    refine g_Fa (b := sg n ts a c) hb_8 ?_
    exact g_ireturn rfl (bI_nar _) (by omega) (by omega) d_RR_skipSign_12 ⟨_, rfl, rfl, rfl, by rw [if_neg (by rw [hb_8]; decide)]; exact h0, fun _ _ => rfl⟩
end READER

