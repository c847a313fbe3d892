/-! the model: what needs no state -/
def inI (v a b : Int32) : Bool := !decide (v < a) && !decide (b < v)
def spN (v x : Nat) : Nat := if 0 < x then v * 32 + x - 96 else v
def roo (f : Nat) : Nat := if f = 0 then 1156 else if f = 1 then 68 else if f = 2 then 4 else 1
def wid (f : Nat) : Nat := if f < 3 then 17 else 4
section MSTAT
variable {l : Launch} {E : gE} {N : Nat} {M : gM}
theorem k_Mo_in (v a b : Int32) : Ctr l E y_Mo_in 0 [.int v, .int a, .int b] N M 0 0 (g_val (some (.int (bI (inI v a b)))) N M) := by
  refine ctr_of [some (.int v), some (.int a), some (.int b)] (by decide) w_979 rfl rfl (Nat.le_of_ble_eq_true rfl) (fun Γ => ?_)
  refine g_iload_n d_Mo_in_0 rfl ?_
  refine g_iload_n d_Mo_in_1 rfl ?_
  refine g_icmp_lt (tgt := 14) d_Mo_in_2 (by decide) (fun hb_2 => ?_) (fun hb_2 => ?_)
  · refine g_iconst (v := nI 0) d_Mo_in_14 (by decide) ?_
    refine g_Fa (b := inI v a b) (by unfold inI; rw [decide_eq_true hb_2]; rfl) ?_
    exact g_ireturn rfl (by first | rfl | exact bI_nar _) (by omega) (by omega) d_Mo_in_15 ⟨rfl, rfl, rfl⟩
  · refine g_iload_n d_Mo_in_5 rfl ?_
    refine g_iload_n d_Mo_in_6 rfl ?_
    refine g_icmp_gt (tgt := 14) d_Mo_in_7 (by decide) (fun hb_7 => ?_) (fun hb_7 => ?_)
    · refine g_iconst (v := nI 0) d_Mo_in_14 (by decide) ?_
      refine g_Fa (b := inI v a b) (by unfold inI; rw [decide_eq_true hb_7, Bool.not_true, Bool.and_false]) ?_
      exact g_ireturn rfl (by first | rfl | exact bI_nar _) (by omega) (by omega) d_Mo_in_15 ⟨rfl, rfl, rfl⟩
    · refine g_iconst (v := nI 1) d_Mo_in_10 (by decide) ?_
      refine g_goto (tgt := 15) d_Mo_in_11 (by decide) ?_
      refine g_Tr (b := inI v a b) (by unfold inI; rw [decide_eq_false hb_2, decide_eq_false hb_7]; rfl) ?_
      exact g_ireturn rfl (by first | rfl | exact bI_nar _) (by omega) (by omega) d_Mo_in_15 ⟨rfl, rfl, rfl⟩
theorem k_Mo_bits (f : Nat) (hf : f < 4) : Ctr l E y_Mo_bits 0 [.int (nI f)] N M 0 0 (g_val (some (.int (nI (bts f)))) N M) := by
  refine ctr_of [some (.int (nI f))] (by decide) w_1014 rfl rfl (Nat.le_of_ble_eq_true rfl) (fun Γ => ?_)
  refine g_iload_n d_Mo_bits_0 rfl ?_
  refine g_iconst (v := nI 2) d_Mo_bits_1 (by decide) ?_
  refine g_icmpN_ge (tgt := 10) d_Mo_bits_2 (by decide) (by omega) (by omega) (fun hb_2 => ?_) (fun hb_2 => ?_)
  · refine g_iload_n d_Mo_bits_10 rfl ?_
    refine g_iconst (v := nI 2) d_Mo_bits_11 (by decide) ?_
    refine g_icmpN_ne (tgt := 20) d_Mo_bits_12 (by decide) (by omega) (by omega) (fun hb_12 => ?_) (fun hb_12 => ?_)
    · refine g_iconst (v := nI 2) d_Mo_bits_20 (by decide) ?_
      refine g_eqi (z := nI (bts f)) (by rw [show f = 3 by omega]; rfl) ?_
      exact g_ireturn rfl (by first | rfl | exact bI_nar _) (by omega) (by omega) d_Mo_bits_21 ⟨rfl, rfl, rfl⟩
    · refine g_bipush (v := nI 10) d_Mo_bits_15 (by decide) ?_
      refine g_goto (tgt := 21) d_Mo_bits_17 (by decide) ?_
      refine g_eqi (z := nI (bts f)) (by rw [show f = 2 by omega]; rfl) ?_
      exact g_ireturn rfl (by first | rfl | exact bI_nar _) (by omega) (by omega) d_Mo_bits_21 ⟨rfl, rfl, rfl⟩
  · refine g_bipush (v := nI 8) d_Mo_bits_5 (by decide) ?_
    refine g_goto (tgt := 21) d_Mo_bits_7 (by decide) ?_
    refine g_eqi (z := nI (bts f)) (by
      have : f = 0 ∨ f = 1 := by omega
      rcases this with e | e <;> (rw [e]; rfl)) ?_
    exact g_ireturn rfl (by first | rfl | exact bI_nar _) (by omega) (by omega) d_Mo_bits_21 ⟨rfl, rfl, rfl⟩
theorem most_val : ∀ f, f < 4 → (nI 1 <<< (nI (bts f) &&& 31)) - nI 1 = nI (mst f) := by decide +kernel
theorem k_Mo_most (f : Nat) (hf : f < 4) : Ctr l E y_Mo_most 1 [.int (nI f)] N M 0 0 (g_val (some (.int (nI (mst f)))) N M) := by
  refine ctr_of [some (.int (nI f))] (by decide) w_1011 rfl rfl (Nat.le_of_ble_eq_true rfl) (fun Γ => ?_)
  refine g_iconst (v := nI 1) d_Mo_most_0 (by decide) ?_
  refine g_iload_n d_Mo_most_1 rfl ?_
  refine g_callS s_Mo_50 sv_Mo_bits (g_of_val (k_Mo_bits f hf)) (by omega) rfl (by omega) (by omega) rfl (Nat.le_of_ble_eq_true rfl) d_Mo_most_2 ?_
  rintro _ _ _ ⟨rfl, rfl, rfl⟩
  refine g_ishl d_Mo_most_5 ?_
  refine g_iconst (v := nI 1) d_Mo_most_6 (by decide) ?_
  refine g_isub d_Mo_most_7 ?_
  refine g_eqi (z := nI (mst f)) (most_val f hf) ?_
  exact g_ireturn rfl (by first | rfl | exact bI_nar _) (by omega) (by omega) d_Mo_most_8 ⟨rfl, rfl, rfl⟩
theorem k_Mo_room (f : Nat) (hf : f < 4) : Ctr l E y_Mo_room 0 [.int (nI f)] N M 0 0 (g_val (some (.int (nI (roo f)))) N M) := by
  refine ctr_of [some (.int (nI f))] (by decide) w_1135 rfl rfl (Nat.le_of_ble_eq_true rfl) (fun Γ => ?_)
  refine g_iload_n d_Mo_room_0 rfl ?_
  refine g_ifN_ne (tgt := 10) d_Mo_room_1 (by decide) (by omega) (fun hb_1 => ?_) (fun hb_1 => ?_)
  · refine g_iload_n d_Mo_room_10 rfl ?_
    refine g_iconst (v := nI 1) d_Mo_room_11 (by decide) ?_
    refine g_icmpN_ne (tgt := 20) d_Mo_room_12 (by decide) (by omega) (by omega) (fun hb_12 => ?_) (fun hb_12 => ?_)
    · refine g_iload_n d_Mo_room_20 rfl ?_
      refine g_iconst (v := nI 2) d_Mo_room_21 (by decide) ?_
      refine g_icmpN_ne (tgt := 29) d_Mo_room_22 (by decide) (by omega) (by omega) (fun hb_22 => ?_) (fun hb_22 => ?_)
      · refine g_iconst (v := nI 1) d_Mo_room_29 (by decide) ?_
        refine g_eqi (z := nI (roo f)) (by rw [show f = 3 by omega]; rfl) ?_
        exact g_ireturn rfl (by first | rfl | exact bI_nar _) (by omega) (by omega) d_Mo_room_30 ⟨rfl, rfl, rfl⟩
      · refine g_iconst (v := nI 4) d_Mo_room_25 (by decide) ?_
        refine g_goto (tgt := 30) d_Mo_room_26 (by decide) ?_
        refine g_eqi (z := nI (roo f)) (by rw [show f = 2 by omega]; rfl) ?_
        exact g_ireturn rfl (by first | rfl | exact bI_nar _) (by omega) (by omega) d_Mo_room_30 ⟨rfl, rfl, rfl⟩
    · refine g_bipush (v := nI 68) d_Mo_room_15 (by decide) ?_
      refine g_goto (tgt := 30) d_Mo_room_17 (by decide) ?_
      refine g_eqi (z := nI (roo f)) (by rw [show f = 1 by omega]; rfl) ?_
      exact g_ireturn rfl (by first | rfl | exact bI_nar _) (by omega) (by omega) d_Mo_room_30 ⟨rfl, rfl, rfl⟩
  · refine g_sipush (v := nI 1156) d_Mo_room_4 (by decide) ?_
    refine g_goto (tgt := 30) d_Mo_room_7 (by decide) ?_
    refine g_eqi (z := nI (roo f)) (by rw [hb_1]; rfl) ?_
    exact g_ireturn rfl (by first | rfl | exact bI_nar _) (by omega) (by omega) d_Mo_room_30 ⟨rfl, rfl, rfl⟩
theorem k_Mo_wide (f : Nat) (hf : f < 4) : Ctr l E y_Mo_wide 0 [.int (nI f)] N M 0 0 (g_val (some (.int (nI (wid f)))) N M) := by
  refine ctr_of [some (.int (nI f))] (by decide) w_1142 rfl rfl (Nat.le_of_ble_eq_true rfl) (fun Γ => ?_)
  refine g_iload_n d_Mo_wide_0 rfl ?_
  refine g_iconst (v := nI 3) d_Mo_wide_1 (by decide) ?_
  refine g_icmpN_ge (tgt := 10) d_Mo_wide_2 (by decide) (by omega) (by omega) (fun hb_2 => ?_) (fun hb_2 => ?_)
  · refine g_iconst (v := nI 4) d_Mo_wide_10 (by decide) ?_
    refine g_eqi (z := nI (wid f)) (by unfold wid; rw [if_neg (by omega)]) ?_
    exact g_ireturn rfl (by first | rfl | exact bI_nar _) (by omega) (by omega) d_Mo_wide_11 ⟨rfl, rfl, rfl⟩
  · refine g_bipush (v := nI 17) d_Mo_wide_5 (by decide) ?_
    refine g_goto (tgt := 11) d_Mo_wide_7 (by decide) ?_
    refine g_eqi (z := nI (wid f)) (by unfold wid; rw [if_pos (by omega)]) ?_
    exact g_ireturn rfl (by first | rfl | exact bI_nar _) (by omega) (by omega) d_Mo_wide_11 ⟨rfl, rfl, rfl⟩
theorem k_Mo_isLetter (c : Nat) (hc : c < 128) : Ctr l E y_Mo_isLetter 0 [.int (nI c)] N M 0 0 (g_val (some (.int (bI (decide (97 ≤ c ∧ c ≤ 122))))) N M) := by
  refine ctr_of [some (.int (nI c))] (by decide) w_998 rfl rfl (Nat.le_of_ble_eq_true rfl) (fun Γ => ?_)
  refine g_iload_n d_Mo_isLetter_0 rfl ?_
  refine g_bipush (v := nI 97) d_Mo_isLetter_1 (by decide) ?_
  refine g_icmpN_lt (tgt := 16) d_Mo_isLetter_3 (by decide) (by omega) (by omega) (fun hb_3 => ?_) (fun hb_3 => ?_)
  · refine g_iconst (v := nI 0) d_Mo_isLetter_16 (by decide) ?_
    refine g_Fa (b := decide (97 ≤ c ∧ c ≤ 122)) (decide_eq_false (by omega)) ?_
    exact g_ireturn rfl (by first | rfl | exact bI_nar _) (by omega) (by omega) d_Mo_isLetter_17 ⟨rfl, rfl, rfl⟩
  · refine g_iload_n d_Mo_isLetter_6 rfl ?_
    refine g_bipush (v := nI 122) d_Mo_isLetter_7 (by decide) ?_
    refine g_icmpN_gt (tgt := 16) d_Mo_isLetter_9 (by decide) (by omega) (by omega) (fun hb_9 => ?_) (fun hb_9 => ?_)
    · refine g_iconst (v := nI 0) d_Mo_isLetter_16 (by decide) ?_
      refine g_Fa (b := decide (97 ≤ c ∧ c ≤ 122)) (decide_eq_false (by omega)) ?_
      exact g_ireturn rfl (by first | rfl | exact bI_nar _) (by omega) (by omega) d_Mo_isLetter_17 ⟨rfl, rfl, rfl⟩
    · refine g_iconst (v := nI 1) d_Mo_isLetter_12 (by decide) ?_
      refine g_goto (tgt := 17) d_Mo_isLetter_13 (by decide) ?_
      refine g_Tr (b := decide (97 ≤ c ∧ c ≤ 122)) (decide_eq_true (by omega)) ?_
      exact g_ireturn rfl (by first | rfl | exact bI_nar _) (by omega) (by omega) d_Mo_isLetter_17 ⟨rfl, rfl, rfl⟩
theorem k_Mo_isDigit (c : Nat) (hc : c < 128) : Ctr l E y_Mo_isDigit 0 [.int (nI c)] N M 0 0 (g_val (some (.int (bI (decide (48 ≤ c ∧ c ≤ 57))))) N M) := by
  refine ctr_of [some (.int (nI c))] (by decide) w_1028 rfl rfl (Nat.le_of_ble_eq_true rfl) (fun Γ => ?_)
  refine g_iload_n d_Mo_isDigit_0 rfl ?_
  refine g_bipush (v := nI 48) d_Mo_isDigit_1 (by decide) ?_
  refine g_icmpN_lt (tgt := 16) d_Mo_isDigit_3 (by decide) (by omega) (by omega) (fun hb_3 => ?_) (fun hb_3 => ?_)
  · refine g_iconst (v := nI 0) d_Mo_isDigit_16 (by decide) ?_
    refine g_Fa (b := decide (48 ≤ c ∧ c ≤ 57)) (decide_eq_false (by omega)) ?_
    exact g_ireturn rfl (by first | rfl | exact bI_nar _) (by omega) (by omega) d_Mo_isDigit_17 ⟨rfl, rfl, rfl⟩
  · refine g_iload_n d_Mo_isDigit_6 rfl ?_
    refine g_bipush (v := nI 57) d_Mo_isDigit_7 (by decide) ?_
    refine g_icmpN_gt (tgt := 16) d_Mo_isDigit_9 (by decide) (by omega) (by omega) (fun hb_9 => ?_) (fun hb_9 => ?_)
    · refine g_iconst (v := nI 0) d_Mo_isDigit_16 (by decide) ?_
      refine g_Fa (b := decide (48 ≤ c ∧ c ≤ 57)) (decide_eq_false (by omega)) ?_
      exact g_ireturn rfl (by first | rfl | exact bI_nar _) (by omega) (by omega) d_Mo_isDigit_17 ⟨rfl, rfl, rfl⟩
    · refine g_iconst (v := nI 1) d_Mo_isDigit_12 (by decide) ?_
      refine g_goto (tgt := 17) d_Mo_isDigit_13 (by decide) ?_
      refine g_Tr (b := decide (48 ≤ c ∧ c ≤ 57)) (decide_eq_true (by omega)) ?_
      exact g_ireturn rfl (by first | rfl | exact bI_nar _) (by omega) (by omega) d_Mo_isDigit_17 ⟨rfl, rfl, rfl⟩
def spl (a b c d e : Nat) : Nat := spN (spN (spN (spN (spN 0 a) b) c) d) e
theorem k_Mo_spell (a b c d e : Nat) (ha : 97 ≤ a ∧ a < 128) (hb : 97 ≤ b ∧ b < 128) (hc : 97 ≤ c ∧ c < 128) (hd : d = 0 ∨ (97 ≤ d ∧ d < 128)) (he : e = 0 ∨ (97 ≤ e ∧ e < 128)) : Ctr l E y_Mo_spell 0 [.int (nI a), .int (nI b), .int (nI c), .int (nI d), .int (nI e)] N M 0 0 (g_val (some (.int (nI (spl a b c d e)))) N M) := by
  have s1 : ∀ v x, 97 ≤ x → (nI v * nI 32 + nI x) - nI 96 = nI (spN v x) := by
    intro v x hx
    rw [pk_mul, nI_add, pk_sub (by omega)]
    unfold spN
    rw [if_pos (by omega)]
  refine ctr_of [some (.int (nI a)), some (.int (nI b)), some (.int (nI c)), some (.int (nI d)), some (.int (nI e)), none] (by decide) w_1004 rfl rfl (Nat.le_of_ble_eq_true rfl) (fun Γ => ?_)
  refine g_iconst (v := nI 0) d_Mo_spell_0 (by decide) ?_
  refine g_istore d_Mo_spell_1 (by decide) ?_
  refine g_iload_n d_Mo_spell_3 rfl ?_
  refine g_ifN_le (tgt := 20) d_Mo_spell_4 (by decide) (by omega) (fun hb_4 => ?_) (fun hb_4 => ?_)
  · omega
  refine g_iload d_Mo_spell_7 rfl ?_
  refine g_bipush (v := nI 32) d_Mo_spell_9 (by decide) ?_
  refine g_imul d_Mo_spell_11 ?_
  refine g_iload_n d_Mo_spell_12 rfl ?_
  refine g_iadd d_Mo_spell_13 ?_
  refine g_bipush (v := nI 96) d_Mo_spell_14 (by decide) ?_
  refine g_isub d_Mo_spell_16 ?_
  refine g_eqi (s1 0 a ha.1) ?_
  refine g_goto (tgt := 22) d_Mo_spell_17 (by decide) ?_
  refine g_istore d_Mo_spell_22 (by decide) ?_
  refine g_iload_n d_Mo_spell_24 rfl ?_
  refine g_ifN_le (tgt := 41) d_Mo_spell_25 (by decide) (by omega) (fun hb_25 => ?_) (fun hb_25 => ?_)
  · omega
  refine g_iload d_Mo_spell_28 rfl ?_
  refine g_bipush (v := nI 32) d_Mo_spell_30 (by decide) ?_
  refine g_imul d_Mo_spell_32 ?_
  refine g_iload_n d_Mo_spell_33 rfl ?_
  refine g_iadd d_Mo_spell_34 ?_
  refine g_bipush (v := nI 96) d_Mo_spell_35 (by decide) ?_
  refine g_isub d_Mo_spell_37 ?_
  refine g_eqi (s1 _ b hb.1) ?_
  refine g_goto (tgt := 43) d_Mo_spell_38 (by decide) ?_
  refine g_istore d_Mo_spell_43 (by decide) ?_
  refine g_iload_n d_Mo_spell_45 rfl ?_
  refine g_ifN_le (tgt := 62) d_Mo_spell_46 (by decide) (by omega) (fun hb_46 => ?_) (fun hb_46 => ?_)
  · omega
  refine g_iload d_Mo_spell_49 rfl ?_
  refine g_bipush (v := nI 32) d_Mo_spell_51 (by decide) ?_
  refine g_imul d_Mo_spell_53 ?_
  refine g_iload_n d_Mo_spell_54 rfl ?_
  refine g_iadd d_Mo_spell_55 ?_
  refine g_bipush (v := nI 96) d_Mo_spell_56 (by decide) ?_
  refine g_isub d_Mo_spell_58 ?_
  refine g_eqi (s1 _ c hc.1) ?_
  refine g_goto (tgt := 64) d_Mo_spell_59 (by decide) ?_
  rcases hd with rfl | hd
  · refine g_istore d_Mo_spell_64 (by decide) ?_
    refine g_iload_n d_Mo_spell_66 rfl ?_
    refine g_ifN_le (tgt := 83) d_Mo_spell_67 (by decide) (by omega) (fun hb_67 => ?_) (fun hb_67 => ?_)
    · rcases he with rfl | he
      · refine g_iload d_Mo_spell_83 rfl ?_
        refine g_istore d_Mo_spell_85 (by decide) ?_
        refine g_iload d_Mo_spell_87 rfl ?_
        refine g_ifN_le (tgt := 106) d_Mo_spell_89 (by decide) (by omega) (fun hb_89 => ?_) (fun hb_89 => ?_)
        · refine g_iload d_Mo_spell_106 rfl ?_
          exact g_ireturn rfl (by first | rfl | exact bI_nar _) (by omega) (by omega) d_Mo_spell_108 ⟨rfl, rfl, rfl⟩
        · omega
      · refine g_iload d_Mo_spell_83 rfl ?_
        refine g_istore d_Mo_spell_85 (by decide) ?_
        refine g_iload d_Mo_spell_87 rfl ?_
        refine g_ifN_le (tgt := 106) d_Mo_spell_89 (by decide) (by omega) (fun hb_89 => ?_) (fun hb_89 => ?_)
        · omega
        · refine g_iload d_Mo_spell_92 rfl ?_
          refine g_bipush (v := nI 32) d_Mo_spell_94 (by decide) ?_
          refine g_imul d_Mo_spell_96 ?_
          refine g_iload d_Mo_spell_97 rfl ?_
          refine g_iadd d_Mo_spell_99 ?_
          refine g_bipush (v := nI 96) d_Mo_spell_100 (by decide) ?_
          refine g_isub d_Mo_spell_102 ?_
          refine g_eqi (s1 _ e he.1) ?_
          refine g_goto (tgt := 108) d_Mo_spell_103 (by decide) ?_
          exact g_ireturn rfl (by first | rfl | exact bI_nar _) (by omega) (by omega) d_Mo_spell_108 ⟨rfl, rfl, rfl⟩
    · omega
  · refine g_istore d_Mo_spell_64 (by decide) ?_
    refine g_iload_n d_Mo_spell_66 rfl ?_
    refine g_ifN_le (tgt := 83) d_Mo_spell_67 (by decide) (by omega) (fun hb_67 => ?_) (fun hb_67 => ?_)
    · omega
    refine g_iload d_Mo_spell_70 rfl ?_
    refine g_bipush (v := nI 32) d_Mo_spell_72 (by decide) ?_
    refine g_imul d_Mo_spell_74 ?_
    refine g_iload_n d_Mo_spell_75 rfl ?_
    refine g_iadd d_Mo_spell_76 ?_
    refine g_bipush (v := nI 96) d_Mo_spell_77 (by decide) ?_
    refine g_isub d_Mo_spell_79 ?_
    refine g_eqi (s1 _ d hd.1) ?_
    refine g_goto (tgt := 85) d_Mo_spell_80 (by decide) ?_
    rcases he with rfl | he
    · refine g_istore d_Mo_spell_85 (by decide) ?_
      refine g_iload d_Mo_spell_87 rfl ?_
      refine g_ifN_le (tgt := 106) d_Mo_spell_89 (by decide) (by omega) (fun hb_89 => ?_) (fun hb_89 => ?_)
      · refine g_iload d_Mo_spell_106 rfl ?_
        exact g_ireturn rfl (by first | rfl | exact bI_nar _) (by omega) (by omega) d_Mo_spell_108 ⟨rfl, rfl, rfl⟩
      · omega
    · refine g_istore d_Mo_spell_85 (by decide) ?_
      refine g_iload d_Mo_spell_87 rfl ?_
      refine g_ifN_le (tgt := 106) d_Mo_spell_89 (by decide) (by omega) (fun hb_89 => ?_) (fun hb_89 => ?_)
      · omega
      · refine g_iload d_Mo_spell_92 rfl ?_
        refine g_bipush (v := nI 32) d_Mo_spell_94 (by decide) ?_
        refine g_imul d_Mo_spell_96 ?_
        refine g_iload d_Mo_spell_97 rfl ?_
        refine g_iadd d_Mo_spell_99 ?_
        refine g_bipush (v := nI 96) d_Mo_spell_100 (by decide) ?_
        refine g_isub d_Mo_spell_102 ?_
        refine g_eqi (s1 _ e he.1) ?_
        refine g_goto (tgt := 108) d_Mo_spell_103 (by decide) ?_
        exact g_ireturn rfl (by first | rfl | exact bI_nar _) (by omega) (by omega) d_Mo_spell_108 ⟨rfl, rfl, rfl⟩
theorem k_Mo_verdictOf (w : Nat) (hw : w < 2 ^ 31) : Ctr l E y_Mo_verdictOf 1 [.int (nI w)] N M 0 0 (g_val (some (.int (if w = spl 100 101 110 121 0 then nI 0 else if w = spl 97 108 108 111 119 then nI 1 else if w = spl 108 111 103 0 0 then nI 2 else -1))) N M) := by
  have e1 : spl 100 101 110 121 0 < 2 ^ 31 := by decide
  have e2 : spl 97 108 108 111 119 < 2 ^ 31 := by decide
  have e3 : spl 108 111 103 0 0 < 2 ^ 31 := by decide
  refine ctr_of [some (.int (nI w))] (by decide) w_1001 rfl rfl (Nat.le_of_ble_eq_true rfl) (fun Γ => ?_)
  refine g_iload_n d_Mo_verdictOf_0 rfl ?_
  refine g_bipush (v := nI 100) d_Mo_verdictOf_1 (by decide) ?_
  refine g_bipush (v := nI 101) d_Mo_verdictOf_3 (by decide) ?_
  refine g_bipush (v := nI 110) d_Mo_verdictOf_5 (by decide) ?_
  refine g_bipush (v := nI 121) d_Mo_verdictOf_7 (by decide) ?_
  refine g_iconst (v := nI 0) d_Mo_verdictOf_9 (by decide) ?_
  refine g_callS s_Mo_74 sv_Mo_spell (g_of_val (k_Mo_spell 100 101 110 121 0 (by decide) (by decide) (by decide) (by decide) (by decide))) (by omega) rfl (by omega) (by omega) rfl (Nat.le_of_ble_eq_true rfl) d_Mo_verdictOf_10 ?_
  rintro _ _ _ ⟨rfl, rfl, rfl⟩
  refine g_icmpN_ne (tgt := 20) d_Mo_verdictOf_13 (by decide) (by omega) (by omega) (fun hb_13 => ?_) (fun hb_13 => ?_)
  · rw [if_neg hb_13]
    refine g_iload_n d_Mo_verdictOf_20 rfl ?_
    refine g_bipush (v := nI 97) d_Mo_verdictOf_21 (by decide) ?_
    refine g_bipush (v := nI 108) d_Mo_verdictOf_23 (by decide) ?_
    refine g_bipush (v := nI 108) d_Mo_verdictOf_25 (by decide) ?_
    refine g_bipush (v := nI 111) d_Mo_verdictOf_27 (by decide) ?_
    refine g_bipush (v := nI 119) d_Mo_verdictOf_29 (by decide) ?_
    refine g_callS s_Mo_74 sv_Mo_spell (g_of_val (k_Mo_spell 97 108 108 111 119 (by decide) (by decide) (by decide) (by decide) (by decide))) (by omega) rfl (by omega) (by omega) rfl (Nat.le_of_ble_eq_true rfl) d_Mo_verdictOf_31 ?_
    rintro _ _ _ ⟨rfl, rfl, rfl⟩
    refine g_icmpN_ne (tgt := 41) d_Mo_verdictOf_34 (by decide) (by omega) (by omega) (fun hb_34 => ?_) (fun hb_34 => ?_)
    · rw [if_neg hb_34]
      refine g_iload_n d_Mo_verdictOf_41 rfl ?_
      refine g_bipush (v := nI 108) d_Mo_verdictOf_42 (by decide) ?_
      refine g_bipush (v := nI 111) d_Mo_verdictOf_44 (by decide) ?_
      refine g_bipush (v := nI 103) d_Mo_verdictOf_46 (by decide) ?_
      refine g_iconst (v := nI 0) d_Mo_verdictOf_48 (by decide) ?_
      refine g_iconst (v := nI 0) d_Mo_verdictOf_49 (by decide) ?_
      refine g_callS s_Mo_74 sv_Mo_spell (g_of_val (k_Mo_spell 108 111 103 0 0 (by decide) (by decide) (by decide) (by decide) (by decide))) (by omega) rfl (by omega) (by omega) rfl (Nat.le_of_ble_eq_true rfl) d_Mo_verdictOf_50 ?_
      rintro _ _ _ ⟨rfl, rfl, rfl⟩
      refine g_icmpN_ne (tgt := 60) d_Mo_verdictOf_53 (by decide) (by omega) (by omega) (fun hb_53 => ?_) (fun hb_53 => ?_)
      · rw [if_neg hb_53]
        refine g_iconst (v := -1) d_Mo_verdictOf_60 (by decide) ?_
        exact g_ireturn rfl (by first | rfl | exact bI_nar _) (by omega) (by omega) d_Mo_verdictOf_61 ⟨rfl, rfl, rfl⟩
      · rw [if_pos hb_53]
        refine g_iconst (v := nI 2) d_Mo_verdictOf_56 (by decide) ?_
        refine g_goto (tgt := 61) d_Mo_verdictOf_57 (by decide) ?_
        exact g_ireturn rfl (by first | rfl | exact bI_nar _) (by omega) (by omega) d_Mo_verdictOf_61 ⟨rfl, rfl, rfl⟩
    · rw [if_pos hb_34]
      refine g_iconst (v := nI 1) d_Mo_verdictOf_37 (by decide) ?_
      refine g_goto (tgt := 61) d_Mo_verdictOf_38 (by decide) ?_
      exact g_ireturn rfl (by first | rfl | exact bI_nar _) (by omega) (by omega) d_Mo_verdictOf_61 ⟨rfl, rfl, rfl⟩
  · rw [if_pos hb_13]
    refine g_iconst (v := nI 0) d_Mo_verdictOf_16 (by decide) ?_
    refine g_goto (tgt := 61) d_Mo_verdictOf_17 (by decide) ?_
    exact g_ireturn rfl (by first | rfl | exact bI_nar _) (by omega) (by omega) d_Mo_verdictOf_61 ⟨rfl, rfl, rfl⟩
theorem k_Mo_fieldOf (w : Nat) (hw : w < 2 ^ 31) : Ctr l E y_Mo_fieldOf 1 [.int (nI w)] N M 0 0 (g_val (some (.int (if w = spl 115 114 99 0 0 then nI 0 else if w = spl 100 115 116 0 0 then nI 1 else if w = spl 112 111 114 116 0 then nI 2 else if w = spl 112 114 111 116 111 then nI 3 else -1))) N M) := by
  have e1 : spl 115 114 99 0 0 < 2 ^ 31 := by decide
  have e2 : spl 100 115 116 0 0 < 2 ^ 31 := by decide
  have e3 : spl 112 111 114 116 0 < 2 ^ 31 := by decide
  have e4 : spl 112 114 111 116 111 < 2 ^ 31 := by decide
  refine ctr_of [some (.int (nI w))] (by decide) w_1017 rfl rfl (Nat.le_of_ble_eq_true rfl) (fun Γ => ?_)
  refine g_iload_n d_Mo_fieldOf_0 rfl ?_
  refine g_bipush (v := nI 115) d_Mo_fieldOf_1 (by decide) ?_
  refine g_bipush (v := nI 114) d_Mo_fieldOf_3 (by decide) ?_
  refine g_bipush (v := nI 99) d_Mo_fieldOf_5 (by decide) ?_
  refine g_iconst (v := nI 0) d_Mo_fieldOf_7 (by decide) ?_
  refine g_iconst (v := nI 0) d_Mo_fieldOf_8 (by decide) ?_
  refine g_callS s_Mo_74 sv_Mo_spell (g_of_val (k_Mo_spell 115 114 99 0 0 (by decide) (by decide) (by decide) (by decide) (by decide))) (by omega) rfl (by omega) (by omega) rfl (Nat.le_of_ble_eq_true rfl) d_Mo_fieldOf_9 ?_
  rintro _ _ _ ⟨rfl, rfl, rfl⟩
  refine g_icmpN_ne (tgt := 17) d_Mo_fieldOf_12 (by decide) (by omega) (by omega) (fun hb_12 => ?_) (fun hb_12 => ?_)
  · rw [if_neg hb_12]
    refine g_iload_n d_Mo_fieldOf_17 rfl ?_
    refine g_bipush (v := nI 100) d_Mo_fieldOf_18 (by decide) ?_
    refine g_bipush (v := nI 115) d_Mo_fieldOf_20 (by decide) ?_
    refine g_bipush (v := nI 116) d_Mo_fieldOf_22 (by decide) ?_
    refine g_iconst (v := nI 0) d_Mo_fieldOf_24 (by decide) ?_
    refine g_iconst (v := nI 0) d_Mo_fieldOf_25 (by decide) ?_
    refine g_callS s_Mo_74 sv_Mo_spell (g_of_val (k_Mo_spell 100 115 116 0 0 (by decide) (by decide) (by decide) (by decide) (by decide))) (by omega) rfl (by omega) (by omega) rfl (Nat.le_of_ble_eq_true rfl) d_Mo_fieldOf_26 ?_
    rintro _ _ _ ⟨rfl, rfl, rfl⟩
    refine g_icmpN_ne (tgt := 36) d_Mo_fieldOf_29 (by decide) (by omega) (by omega) (fun hb_29 => ?_) (fun hb_29 => ?_)
    · rw [if_neg hb_29]
      refine g_iload_n d_Mo_fieldOf_36 rfl ?_
      refine g_bipush (v := nI 112) d_Mo_fieldOf_37 (by decide) ?_
      refine g_bipush (v := nI 111) d_Mo_fieldOf_39 (by decide) ?_
      refine g_bipush (v := nI 114) d_Mo_fieldOf_41 (by decide) ?_
      refine g_bipush (v := nI 116) d_Mo_fieldOf_43 (by decide) ?_
      refine g_iconst (v := nI 0) d_Mo_fieldOf_45 (by decide) ?_
      refine g_callS s_Mo_74 sv_Mo_spell (g_of_val (k_Mo_spell 112 111 114 116 0 (by decide) (by decide) (by decide) (by decide) (by decide))) (by omega) rfl (by omega) (by omega) rfl (Nat.le_of_ble_eq_true rfl) d_Mo_fieldOf_46 ?_
      rintro _ _ _ ⟨rfl, rfl, rfl⟩
      refine g_icmpN_ne (tgt := 56) d_Mo_fieldOf_49 (by decide) (by omega) (by omega) (fun hb_49 => ?_) (fun hb_49 => ?_)
      · rw [if_neg hb_49]
        refine g_iload_n d_Mo_fieldOf_56 rfl ?_
        refine g_bipush (v := nI 112) d_Mo_fieldOf_57 (by decide) ?_
        refine g_bipush (v := nI 114) d_Mo_fieldOf_59 (by decide) ?_
        refine g_bipush (v := nI 111) d_Mo_fieldOf_61 (by decide) ?_
        refine g_bipush (v := nI 116) d_Mo_fieldOf_63 (by decide) ?_
        refine g_bipush (v := nI 111) d_Mo_fieldOf_65 (by decide) ?_
        refine g_callS s_Mo_74 sv_Mo_spell (g_of_val (k_Mo_spell 112 114 111 116 111 (by decide) (by decide) (by decide) (by decide) (by decide))) (by omega) rfl (by omega) (by omega) rfl (Nat.le_of_ble_eq_true rfl) d_Mo_fieldOf_67 ?_
        rintro _ _ _ ⟨rfl, rfl, rfl⟩
        refine g_icmpN_ne (tgt := 77) d_Mo_fieldOf_70 (by decide) (by omega) (by omega) (fun hb_70 => ?_) (fun hb_70 => ?_)
        · rw [if_neg hb_70]
          refine g_iconst (v := -1) d_Mo_fieldOf_77 (by decide) ?_
          exact g_ireturn rfl (by first | rfl | exact bI_nar _) (by omega) (by omega) d_Mo_fieldOf_78 ⟨rfl, rfl, rfl⟩
        · rw [if_pos hb_70]
          refine g_iconst (v := nI 3) d_Mo_fieldOf_73 (by decide) ?_
          refine g_goto (tgt := 78) d_Mo_fieldOf_74 (by decide) ?_
          exact g_ireturn rfl (by first | rfl | exact bI_nar _) (by omega) (by omega) d_Mo_fieldOf_78 ⟨rfl, rfl, rfl⟩
      · rw [if_pos hb_49]
        refine g_iconst (v := nI 2) d_Mo_fieldOf_52 (by decide) ?_
        refine g_goto (tgt := 78) d_Mo_fieldOf_53 (by decide) ?_
        exact g_ireturn rfl (by first | rfl | exact bI_nar _) (by omega) (by omega) d_Mo_fieldOf_78 ⟨rfl, rfl, rfl⟩
    · rw [if_pos hb_29]
      refine g_iconst (v := nI 1) d_Mo_fieldOf_32 (by decide) ?_
      refine g_goto (tgt := 78) d_Mo_fieldOf_33 (by decide) ?_
      exact g_ireturn rfl (by first | rfl | exact bI_nar _) (by omega) (by omega) d_Mo_fieldOf_78 ⟨rfl, rfl, rfl⟩
  · rw [if_pos hb_12]
    refine g_iconst (v := nI 0) d_Mo_fieldOf_15 (by decide) ?_
    exact g_ireturn rfl (by first | rfl | exact bI_nar _) (by omega) (by omega) d_Mo_fieldOf_16 ⟨rfl, rfl, rfl⟩
end MSTAT

