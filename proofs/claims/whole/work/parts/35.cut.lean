/-! arraycopy within one row of ints -/
section GCOPY
variable {l : Launch} {E : gE} {y : MethodName} {cc : ByteArray} {nL : Nat} {ret : Option FieldType} {tb : List ExceptionTableEntry} {d : Nat} {Q : Outcome → Nat → gM → Prop} {mc ms : Nat} {Γ : gT} {pc : Nat} {L : List (Option Value)} {st : List Value} {N : Nat} {M : gM} {k n : Nat}
theorem g_copy {index a nn : Nat} {f : Nat → Int32} (sp dp w : Nat) (hM : M a = some (g_ia E nn f)) (hn : nn < 2 ^ 31) (h4 : sp + w ≤ nn) (h5 : dp + w ≤ nn) (hw : Cond.methodLink y.cls index arraycopyName ∈ g_WS) (hw2 : Cond.native arraycopyName ∈ g_WS) (hw3 : Cond.static arraycopyName ∈ g_WS) (hw4 : Cond.initialized "java/lang/System" ∈ g_WS) (hd : 1 ≤ d) (hst : (st.map fun v => v.category).sum ≤ 8) (dg : decode cc pc = .ok (.invokestatic index, 3))
    (kk : G l E y cc nL ret tb d Q mc ms Γ (pc + 3) L st N (va_up M a (some (g_ia E nn (va_cpy f f sp dp w)))) k n) : G l E y cc nL ret tb d Q mc ms Γ pc L (.int (nI w) :: .int (nI dp) :: .ref a :: .int (nI sp) :: .ref a :: st) N M k n := by
  intro hc H locs ls hl hr hq T hT X
  have c1 : (nI sp).toNatClampNeg = sp := nI_clamp (by omega)
  have c2 : (nI dp).toNatClampNeg = dp := nI_clamp (by omega)
  have c3 : (nI w).toNatClampNeg = w := nI_clamp (by omega)
  have hc0 : H[a]? = some (vp_cell (E.2.1 0) (nn, .inl f)) := hr.at hM
  obtain ⟨-, k0, hk0, cm0, hkk0⟩ := (hc.K.1.2 0 _ rfl).1 nn (fun j => .int (f j))
  obtain ⟨vm', X', step⟩ := X.arraycopy hc.x hc.o (hc.t _ hw) (hc.t _ hw2) (hc.t _ hw3) (hc.t _ hw4) (src := a) (dst := a) (cs := vp_cell (E.2.1 0) (nn, .inl f)) (cd := vp_cell (E.2.1 0) (nn, .inl f)) (srcPos := nI sp) (destPos := nI dp) (n := nI w) (by rw [hT]; exact hc0) (by rw [hT]; exact hc0)
    (fun _ h => by cases h) (fun _ h => by cases h) (fun h => by cases h) (fun h => by cases h) hk0 hk0 hkk0 hkk0 (by simp [refKind]) (nI_pos (by omega)) (nI_pos (by omega)) (nI_pos (by omega))
    (by rw [nI_toInt (by omega), nI_toInt (by omega)]; show ¬ _ > ((arrV (E.2.1 0) nn (fun j => .int (f j))).slots.size : Int); rw [arrV_size]; omega)
    (by rw [nI_toInt (by omega), nI_toInt (by omega)]; show ¬ _ > ((arrV (E.2.1 0) nn (fun j => .int (f j))).slots.size : Int); rw [arrV_size]; omega)
    (fun vm₁ _ i hi => by
      have e : (vp_cell (E.2.1 0) (nn, .inl f)).slots.getD ((nI sp).toNatClampNeg + i) .null = .int (f (sp + i)) := by
        show (arrV (E.2.1 0) nn (fun j => .int (f j))).slots.getD _ _ = _
        rw [c3] at hi
        rw [c1, Array.getD_eq_getD_getElem?, arrV_read _ _ (by omega)]
        rfl
      refine ⟨?_, ?_⟩
      · rw [e]
        rfl
      · rw [e]
        exact trivial)
    (g := F0 (g_m Γ) pc ls (.int (nI w) :: .int (nI dp) :: .ref a :: .int (nI sp) :: .ref a :: st)) rfl (by rw [hc.ml]; exact hl.1.1) (rest := st) rfl (by rw [hc.b]; exact dg) (by rw [hc.R]; exact hd) (by
      rw [hc.R]
      show 2 * 0 + (st.map fun v => v.category).sum + (nativeFrameWords "java/lang/System" "arraycopy" 5 + 11) ≤ 100 * d
      have hw9 : nativeFrameWords "java/lang/System" "arraycopy" 5 ≤ 60 := by decide +kernel
      omega)
  have e1 : copied (vp_cell (E.2.1 0) (nn, .inl f)) (vp_cell (E.2.1 0) (nn, .inl f)) (nI sp) (nI dp) (nI w) = vp_cell (E.2.1 0) (nn, .inl (va_cpy f f sp dp w)) := by
    have := va_copied (n1 := nn) (dp := (nI dp).toNatClampNeg) (fun z => Value.int z) (E.2.1 0) (E.2.1 0) f f (show (nI sp).toNatClampNeg + (nI w).toNatClampNeg ≤ nn by rw [c1, c3]; exact h4)
    rw [c1, c2, c3] at this
    show ((arrV (E.2.1 0) nn (fun j => Value.int (f j))).storeRun (nI dp).toNatClampNeg ((arrV (E.2.1 0) nn (fun j => Value.int (f j))).stretch (nI sp).toNatClampNeg (nI w).toNatClampNeg)) = _
    rw [c1, c2, c3]
    exact this
  rw [e1] at X' step
  have hlt : a < H.size := (Array.getElem?_eq_some_iff.mp hc0).1
  have hheap : ((T.setVm vm').setCell a (vp_cell (E.2.1 0) (nn, .inl (va_cpy f f sp dp w)))).heap = H.setIfInBounds a (vp_cell (E.2.1 0) (nn, .inl (va_cpy f f sp dp w))) := by rw [← hT]; rfl
  have oq : ∀ q : Nat, q ≠ a → (H.setIfInBounds a (vp_cell (E.2.1 0) (nn, .inl (va_cpy f f sp dp w))))[q]? = H[q]? := fun q hq => by simp [Array.getElem?_setIfInBounds, Ne.symm hq]
  obtain ⟨t, a1, b1⟩ := kk hc _ _ ls hl (hr.put (x := g_ia E nn (va_cpy f f sp dp w)) (hr.ge hM) (by simp) oq (show (H.setIfInBounds a _)[a]? = some _ by simp [Array.getElem?_setIfInBounds, hlt])) (fun q hq2 => by
      rcases List.mem_append.mp hq2 with h | h
      · exact hq q h
      · obtain ⟨z, -, hz⟩ := List.mem_map.mp h
        rw [← hz]
        exact hr.ge hM) _ hheap X'
  exact ⟨t, step t a1, b1⟩
end GCOPY

