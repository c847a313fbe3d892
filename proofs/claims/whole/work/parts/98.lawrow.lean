/-! rows of the law's own: its script, its switch -/
theorem lg_self (z : Int64) : lg_cmp z z = 0 := by
  unfold lg_cmp
  simp
section LAWROW
variable {l : Launch} {E : gE} {y : MethodName} {cc : ByteArray} {nL : Nat} {ret : Option FieldType} {tb : List ExceptionTableEntry} {d : Nat} {Q : Outcome → Nat → gM → Prop} {mc ms : Nat} {Γ : gT} {pc : Nat} {L : List (Option Value)} {st : List Value} {N : Nat} {M : gM} {k n : Nat}
theorem g_sald {b nn : Nat} {xs : Nat → Int32} {i : Int32} (j : Nat) (hX : va_X b nn xs (g_s Γ) (g_h0 E)) (hi : i = nI j) (hj : j < nn) (hs : nn < 2 ^ 31) (dg : decode cc pc = .ok (.iaload, 1)) (kk : G l E y cc nL ret tb d Q mc ms Γ (pc + 1) L (.int (xs j) :: st) N M k n) : G l E y cc nL ret tb d Q mc ms Γ pc L (.int i :: .ref b :: st) N M k n := by
  intro hc H locs ls hl hr hq
  subst hi
  obtain ⟨cell, h1, h2, h3, h4, h5⟩ := hX
  have hcl := nI_clamp (Nat.lt_trans hj hs)
  refine W.iald (v := .int (xs j)) hc.x hc.b (hr.old h1) h2 h3 ?_ ?_ rfl rfl dg (kk hc H locs ls hl hr hq)
  · intro h
    rcases h with h | h
    · exact nI_pos (Nat.lt_trans hj hs) h
    · rw [hcl] at h
      omega
  · rw [hcl]
    exact h5 j hj
theorem g_xlen {b nn : Nat} {xs : Nat → Int32} (hX : va_X b nn xs (g_s Γ) (g_h0 E)) (dg : decode cc pc = .ok (.arraylength, 1)) (kk : G l E y cc nL ret tb d Q mc ms Γ (pc + 1) L (.int (nI nn) :: st) N M k n) : G l E y cc nL ret tb d Q mc ms Γ pc L (.ref b :: st) N M k n := by
  intro hc H locs ls hl hr hq
  obtain ⟨cell, h1, h2, h3, h4, h5⟩ := hX
  exact W.alen (n := nI nn) hc.x hc.b (hr.old h1) h2 (by rw [h4]; rfl) rfl rfl dg (kk hc H locs ls hl hr hq)
theorem g_tswI {dflt hi : Int} {offs : Array Int} {len tgt : Nat} {off : Int} (q : Nat) (hq : q < 2 ^ 31) (h2 : ¬ hi < (q : Int)) (ho : offs[q]? = some off) (ht : (pc : Int) + off = (tgt : Int)) (dg : decode cc pc = .ok (.tableswitch dflt 0 hi offs, len)) (kk : G l E y cc nL ret tb d Q mc ms Γ tgt L st N M k n) : G l E y cc nL ret tb d Q mc ms Γ pc L (.int (nI q) :: st) N M k n := by
  intro hc H locs ls hl hr hq'
  have e : (nI q).toInt = (q : Int) := nI_toInt hq
  exact lv_tableIn hc.x hc.b dg (by rw [e]; omega) (by rw [e]; exact h2) (by rw [e]; simpa using ho) ht (kk hc H locs ls hl hr hq')
theorem g_tswO {dflt hi : Int} {offs : Array Int} {len tgt : Nat} (q : Nat) (hq : q < 2 ^ 31) (h2 : hi < (q : Int)) (ht : (pc : Int) + dflt = (tgt : Int)) (dg : decode cc pc = .ok (.tableswitch dflt 0 hi offs, len)) (kk : G l E y cc nL ret tb d Q mc ms Γ tgt L st N M k n) : G l E y cc nL ret tb d Q mc ms Γ pc L (.int (nI q) :: st) N M k n := by
  intro hc H locs ls hl hr hq'
  have e : (nI q).toInt = (q : Int) := nI_toInt hq
  exact lv_tableOut hc.x hc.b dg (by rw [e]; exact Or.inr h2) ht (kk hc H locs ls hl hr hq')
end LAWROW

