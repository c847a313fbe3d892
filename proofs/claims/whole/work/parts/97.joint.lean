/-! a call of the class and of the model, side by side -/
def jn (l : Launch) (E : gE) (ya : MethodName) (da : Nat) (as : List Value) (ym : MethodName) (dm : Nat) (ms : List Value) (hv : Bool) (N : Nat) (M : gM) (B : Nat) : Prop :=
  ∃ P, CtrX l E ya da as N M 1 6 (g_ret P) ∧ ∀ v N1 M1, P v N1 M1 → ∃ kc : Nat, v = some (.int (nI kc)) ∧ kc < 3 ∧ N ≤ N1 ∧ N1 ≤ N + 1 ∧ (∃ fs, M1 (B + 152) = some (.inr (10, fs))) ∧ ∃ Pm, Ctr l E ym dm ms N1 M1 0 0 (g_ret Pm) ∧
    ∀ w N2 M2, Pm w N2 M2 → N2 = N1 ∧ ∃ zb fo tn ts mm rr gn gs, (w = if hv = true then some (.int zb) else none) ∧ OA E M2 B tn ts mm rr gn gs ∧ OM E M2 (B + 152) (nI kc) tn ts mm rr gn gs ∧ M2 (B + 165) = some (g_la E 1 fo) ∧ (kc = 0 → hv = true → fo 0 = zb.toInt64)
theorem nI_all32 (x : Int32) : ∃ k, k < 2 ^ 32 ∧ nI k = x := ⟨x.toBitVec.toNat, x.toBitVec.isLt, by
  show Int32.ofNat x.toBitVec.toNat = x
  apply Int32.toBitVec_inj.mp
  simp⟩
theorem noN_le {x : Int32} {n m : Nat} (h : noN x n) (hm : m ≤ n) : noN x m := by
  rcases h with h | ⟨j, a, b, c⟩
  · exact Or.inl h
  · exact Or.inr ⟨j, a, by omega, c⟩
theorem noP_or2 (a b c d : Int32) : noP a b c d ∨ ∃ a' b' c' d' : Nat, a = nI a' ∧ b = nI b' ∧ c = nI c' ∧ d = nI d' ∧ a' ≤ 255 ∧ b' ≤ 255 ∧ c' ≤ 1023 ∧ d' ≤ 3 := by
  rcases noN_or a 256 with h | ⟨a', rfl, ha, -⟩
  · exact Or.inl (Or.inl h)
  rcases noN_or b 256 with h | ⟨b', rfl, hb, -⟩
  · exact Or.inl (Or.inr (Or.inl h))
  rcases noN_or c 1024 with h | ⟨c', rfl, hc, -⟩
  · exact Or.inl (Or.inr (Or.inr (Or.inl h)))
  rcases noN_or d 4 with h | ⟨d', rfl, hd, -⟩
  · exact Or.inl (Or.inr (Or.inr (Or.inr h)))
  exact Or.inr ⟨a', b', c', d', rfl, rfl, rfl, rfl, by omega, by omega, by omega, by omega⟩
section JOINT
variable {l : Launch} {E : gE} {N : Nat} {M : gM} {B tn : Nat} {th : Int32} {ts : Nat → Nat} {mm : Nat → Nat} {rr : Nat → Nat → Rl} {gn : Nat} {gs : Nat → Nat} {fo : Nat → Int64}
theorem OM.req {W : Nat} {rr' : Nat → Nat → Rl} (h : OM E M W th tn ts mm rr gn gs) (hr : ∀ j i, j < 2 → i < mm j → r_eq (rr' j i) (rr j i)) : OM E M W th tn ts mm rr' gn gs := by
  obtain ⟨hO, hT, ⟨h1, ⟨a, a1, a2⟩, ⟨b, b1, b2⟩, ⟨c, c1, c2⟩, hd⟩, hK, hS⟩ := h
  refine ⟨hO, hT, ⟨fun j hj => ⟨(h1 j hj).1, fun i hi => r_ok_eq (hr j i hj hi) ((h1 j hj).2 i hi)⟩, ⟨a, a1, fun j i hj hi => ?_⟩, ⟨b, b1, fun j i f hj hi hf => ?_⟩, ⟨c, c1, fun j i f hj hi hf => ?_⟩, hd⟩, hK, hS⟩
  · rw [(hr j i hj hi).1]; exact a2 j i hj hi
  · rw [((hr j i hj hi).2 f hf).1]; exact b2 j i f hj hi hf
  · rw [((hr j i hj hi).2 f hf).2]; exact c2 j i f hj hi hf
theorem jok {ya ym : MethodName} {da dm : Nat} {as ms : List Value} {P0 : Option Value → Nat → gM → Prop} (h : OA E M B tn ts mm rr gn gs) (hm : OM E M (B + 152) th tn ts mm rr gn gs) (ho : M (B + 165) = some (g_la E 1 fo))
    (hP0 : ∀ v N' M', P0 v N' M' → N' = N ∧ (∀ x, (x < B ∨ B + 151 < x) → M' x = M x) ∧ ∃ z tn' ts' mm' rr' gn' gs', v = some (.int z) ∧ OA E M' B tn' ts' mm' rr' gn' gs' ∧ ∀ N1 M1, OM E M1 (B + 152) th tn ts mm rr gn gs → ∃ Pm, Ctr l E ym dm ms N1 M1 0 0 (g_ret Pm) ∧ ∀ w N2 M2, Pm w N2 M2 → N2 = N1 ∧ (∀ x, (x < B + 152 ∨ B + 152 + 12 < x) → M2 x = M1 x) ∧ w = some (.int z) ∧ OM E M2 (B + 152) (nI 0) tn' ts' mm' rr' gn' gs')
    (hH : (∀ v N' M', P0 v N' M' → (∃ z, v = some (.int z)) ∧ ∃ fo, M' (B + 165) = some (g_la E 1 fo)) → CtrX l E ya da as N M 1 6 (g_ret (fun v N' M' => v = some (.int (nI 0)) ∧ ∃ z M1, P0 (some (.int z)) N' M1 ∧ (∃ fo, M' (B + 165) = some (g_la E 1 fo) ∧ fo 0 = z.toInt64) ∧ ∀ x, x ≠ B + 165 → M' x = M1 x))) : jn l E ya da as ym dm ms true N M B := by
  refine ⟨_, hH (fun v N' M' hp => ?_), fun v N1 M1 hp => ?_⟩
  · obtain ⟨-, fr, z, tn', ts', mm', rr', gn', gs', hv, -⟩ := hP0 v N' M' hp
    exact ⟨⟨z, hv⟩, fo, (fr _ (by omega)).trans ho⟩
  · obtain ⟨rfl, z, M1', hp0, ⟨fo', ho', hz⟩, hf⟩ := hp
    obtain ⟨rfl, fr, z', tn', ts', mm', rr', gn', gs', hv, hOA, hmod⟩ := hP0 _ _ _ hp0
    cases hv
    have hOM1 := hm.kept (M' := M1) (fun x _ _ => (hf x (by omega)).trans (fr x (by omega)))
    obtain ⟨Pm, hc, hpm⟩ := hmod N1 M1 hOM1
    obtain ⟨⟨rc, pl, fa, hobj⟩, -⟩ := id hOM1
    refine ⟨0, rfl, by omega, by omega, by omega, ⟨_, hobj⟩, Pm, hc, fun w N2 M2 hw => ?_⟩
    obtain ⟨h1, f2, h3, hOM2⟩ := hpm w N2 M2 hw
    exact ⟨h1, z, fo', tn', ts', mm', rr', gn', gs', h3, hOA.kept (fun x _ _ => (f2 x (by omega)).trans (hf x (by omega))), hOM2, (f2 _ (by omega)).trans ho', fun _ _ => hz⟩
theorem jokV {ya ym : MethodName} {da dm : Nat} {as ms : List Value} {P0 : Option Value → Nat → gM → Prop} (h : OA E M B tn ts mm rr gn gs) (hm : OM E M (B + 152) th tn ts mm rr gn gs) (ho : M (B + 165) = some (g_la E 1 fo))
    (hP0 : ∀ v N' M', P0 v N' M' → N' = N ∧ (∀ x, (x < B ∨ B + 151 < x) → M' x = M x) ∧ ∃ tn' ts' mm' rr' gn' gs', v = none ∧ OA E M' B tn' ts' mm' rr' gn' gs' ∧ ∀ N1 M1, OM E M1 (B + 152) th tn ts mm rr gn gs → ∃ Pm, Ctr l E ym dm ms N1 M1 0 0 (g_ret Pm) ∧ ∀ w N2 M2, Pm w N2 M2 → N2 = N1 ∧ (∀ x, (x < B + 152 ∨ B + 152 + 12 < x) → M2 x = M1 x) ∧ w = none ∧ OM E M2 (B + 152) (nI 0) tn' ts' mm' rr' gn' gs')
    (hH : (∀ v N' M', P0 v N' M' → v = none) → CtrX l E ya da as N M 1 6 (g_ret (fun v N' M' => v = some (.int (nI 0)) ∧ P0 none N' M'))) : jn l E ya da as ym dm ms false N M B := by
  refine ⟨_, hH (fun v N' M' hp => ?_), fun v N1 M1 hp => ?_⟩
  · obtain ⟨-, fr, tn', ts', mm', rr', gn', gs', hv, -⟩ := hP0 v N' M' hp
    exact hv
  · obtain ⟨rfl, hp0⟩ := hp
    obtain ⟨rfl, fr, tn', ts', mm', rr', gn', gs', -, hOA, hmod⟩ := hP0 _ _ _ hp0
    have hOM1 := hm.kept (M' := M1) (fun x _ _ => fr x (by omega))
    obtain ⟨Pm, hc, hpm⟩ := hmod N1 M1 hOM1
    obtain ⟨⟨rc, pl, fa, hobj⟩, -⟩ := id hOM1
    refine ⟨0, rfl, by omega, by omega, by omega, ⟨_, hobj⟩, Pm, hc, fun w N2 M2 hw => ?_⟩
    obtain ⟨h1, f2, h3, hOM2⟩ := hpm w N2 M2 hw
    exact ⟨h1, 0, fo, tn', ts', mm', rr', gn', gs', h3, hOA.kept (fun x _ _ => f2 x (by omega)), hOM2, (f2 _ (by omega)).trans ((fr _ (by omega)).trans ho), fun _ q => by cases q⟩
theorem jthr {ya ym : MethodName} {da dm kc ci : Nat} {as ms : List Value} {hv : Bool} (h : OA E M B tn ts mm rr gn gs) (hm : OM E M (B + 152) th tn ts mm rr gn gs) (ho : M (B + 165) = some (g_la E 1 fo)) (hN : B + 166 ≤ N)
    (hH : CtrX l E ya da as N M 1 6 (g_ret (fun v N' M' => v = some (.int (nI kc)) ∧ N' = N + 1 ∧ M' = va_up M N (some (.inr (ci, [])))))) (hk : kc < 3) (hk0 : kc ≠ 0)
    (hmod : ∀ N1 M1, OM E M1 (B + 152) th tn ts mm rr gn gs → ∃ Pm, Ctr l E ym dm ms N1 M1 0 0 (g_ret Pm) ∧ ∀ w N2 M2, Pm w N2 M2 → N2 = N1 ∧ (∀ x, x ≠ B + 152 → M2 x = M1 x) ∧ (∃ zb, w = if hv = true then some (.int zb) else none) ∧ OM E M2 (B + 152) (nI kc) tn ts mm rr gn gs) : jn l E ya da as ym dm ms hv N M B := by
  refine ⟨_, hH, fun v N1 M1 hp => ?_⟩
  obtain ⟨rfl, rfl, rfl⟩ := hp
  have fr : ∀ x, x < N → va_up M N (some (.inr (ci, []))) x = M x := fun x hx => va_up_ne _ _ (by omega)
  have hOM1 := hm.kept (M' := va_up M N (some (.inr (ci, [])))) (fun x _ _ => fr x (by omega))
  obtain ⟨Pm, hc, hpm⟩ := hmod (N + 1) _ hOM1
  obtain ⟨⟨rc, pl, fa, hobj⟩, -⟩ := id hOM1
  refine ⟨kc, rfl, hk, by omega, by omega, ⟨_, hobj⟩, Pm, hc, fun w N2 M2 hw => ?_⟩
  obtain ⟨h1, f2, ⟨zb, h3⟩, hOM2⟩ := hpm w N2 M2 hw
  exact ⟨h1, zb, fo, tn, ts, mm, rr, gn, gs, h3, h.kept (fun x _ _ => (f2 x (by omega)).trans (fr x (by omega))), hOM2, (f2 _ (by omega)).trans ((fr _ (by omega)).trans ho), fun q => absurd q hk0⟩
theorem j_put (h : OA E M B tn ts mm rr gn gs) (hm : OM E M (B + 152) th tn ts mm rr gn gs) (ho : M (B + 165) = some (g_la E 1 fo)) (hN : B + 166 ≤ N) (a1 : Int32) : jn l E y_La_put 7 [.ref B, .int a1, .ref (B + 165)] y_Mo_put 1 [.ref (B + 152), .int a1] true N M B := by
  have hB := h.1.1
  obtain ⟨u, hu, rfl⟩ := nI_all32 a1
  cases hok : okS u with
  | false =>
    exact jthr h hm ho hN (t1_La_put _ hB (x_RD_put h u hu hok)) (by omega) (by omega) (fun N1 M1 hq => ⟨_, x_Mo_put hq u hu hok, fun w N2 M2 ⟨a, b, c, d⟩ => ⟨b, d, ⟨_, a⟩, c⟩⟩)
  | true =>
    by_cases hr : tn + cnS u 4 ≤ 240
    · exact jok h hm ho (fun v N' M' ⟨e1, e2, e3, e4⟩ => by subst e1; subst e2; exact ⟨rfl, e4, _, tn + cnS u 4, apT tn ts u 4, mm, rr, gn, gs, rfl, e3, fun N1 M1 hq => ⟨_, k_Mo_put hq u hu hok hr, fun w N2 M2 ⟨a, b, c, d⟩ => ⟨b, d, a, c⟩⟩⟩) (h_La_put _ hB (k_RD_put h u hu hok hr))
    · exact jthr h hm ho hN (t2_La_put _ hB (xr_RD_put h u hu hok (by omega))) (by omega) (by omega) (fun N1 M1 hq => ⟨_, xr_Mo_put hq u hu hok (by omega), fun w N2 M2 ⟨a, b, c, d⟩ => ⟨b, d, ⟨_, a⟩, c⟩⟩)
theorem j_remove (h : OA E M B tn ts mm rr gn gs) (hm : OM E M (B + 152) th tn ts mm rr gn gs) (ho : M (B + 165) = some (g_la E 1 fo)) (hN : B + 166 ≤ N) (a1 a2 : Int32) : jn l E y_La_remove 9 [.ref B, .int a1, .int a2] y_Mo_remove 2 [.ref (B + 152), .int a1, .int a2] false N M B := by
  have hB := h.1.1
  rcases noN_or a1 2 with hx | ⟨j, rfl, hj, -⟩
  · exact jthr h hm ho hN (t1_La_remove _ _ hB (xl_RD_remove h a1 a2 hx)) (by omega) (by omega) (fun N1 M1 hq => ⟨_, xl_Mo_remove hq a1 a2 hx, fun w N2 M2 ⟨a, b, c, d⟩ => ⟨b, d, ⟨0, a⟩, c⟩⟩)
  rcases noN_or a2 (mm j) with hy | ⟨i, rfl, hi, -⟩
  · exact jthr h hm ho hN (t2_La_remove _ _ hB (x_RD_remove h j hj a2 hy)) (by omega) (by omega) (fun N1 M1 hq => ⟨_, x_Mo_remove hq j hj a2 hy, fun w N2 M2 ⟨a, b, c, d⟩ => ⟨b, d, ⟨0, a⟩, c⟩⟩)
  · exact jokV h hm ho (fun v N' M' ⟨e1, e2, e3, e4⟩ => by subst e1; subst e2; exact ⟨rfl, e4, tn, ts, va_up mm j (mm j - 1), va_up rr j (tko (rr j) i (mm j - 1)), gn, gs, rfl, e3, fun N1 M1 hq => ⟨_, k_Mo_remove hq j i hj hi, fun w N2 M2 ⟨a, b, c, d⟩ => ⟨b, d, a, c⟩⟩⟩) (h_La_remove _ _ hB (k_RD_remove h j i hj hi))
theorem j_swap (h : OA E M B tn ts mm rr gn gs) (hm : OM E M (B + 152) th tn ts mm rr gn gs) (ho : M (B + 165) = some (g_la E 1 fo)) (hN : B + 166 ≤ N) (a1 a2 : Int32) : jn l E y_La_swap 9 [.ref B, .int a1, .int a2] y_Mo_swap 1 [.ref (B + 152), .int a1, .int a2] false N M B := by
  have hB := h.1.1
  rcases noN_or a1 2 with hx | ⟨j, rfl, hj, -⟩
  · exact jthr h hm ho hN (t1_La_swap _ _ hB (xl_RD_swap h a1 a2 hx)) (by omega) (by omega) (fun N1 M1 hq => ⟨_, xl_Mo_swap hq a1 a2 hx, fun w N2 M2 ⟨a, b, c, d⟩ => ⟨b, d, ⟨0, a⟩, c⟩⟩)
  rcases noN_or a2 (mm j) with hy | ⟨i, rfl, hi, hi2⟩
  · exact jthr h hm ho hN (t2_La_swap _ _ hB (x_RD_swap h j hj a2 hy)) (by omega) (by omega) (fun N1 M1 hq => ⟨_, x_Mo_swap hq j hj a2 (noN_le hy (by omega)), fun w N2 M2 ⟨a, b, c, d⟩ => ⟨b, d, ⟨0, a⟩, c⟩⟩)
  by_cases he : i + 1 = mm j
  · exact jthr h hm ho hN (t2_La_swap _ _ hB (xe_RD_swap h j i hj he)) (by omega) (by omega) (fun N1 M1 hq => ⟨_, x_Mo_swap hq j hj (nI i) (Or.inr ⟨i, rfl, by omega, hi2⟩), fun w N2 M2 ⟨a, b, c, d⟩ => ⟨b, d, ⟨0, a⟩, c⟩⟩)
  · exact jokV h hm ho (fun v N' M' ⟨e1, e2, e3, e4⟩ => by subst e1; subst e2; exact ⟨rfl, e4, tn, ts, va_up mm j (mm j), va_up rr j (swp (rr j) i), gn, gs, rfl, e3, fun N1 M1 hq => ⟨_, k_Mo_swap hq j i hj (by omega), fun w N2 M2 ⟨a, b, c, d⟩ => ⟨b, d, a, c⟩⟩⟩) (h_La_swap _ _ hB (k_RD_swap h j i hj (by omega)))
theorem j_rules (h : OA E M B tn ts mm rr gn gs) (hm : OM E M (B + 152) th tn ts mm rr gn gs) (ho : M (B + 165) = some (g_la E 1 fo)) (hN : B + 166 ≤ N) (a1 : Int32) : jn l E y_La_rules 8 [.ref B, .int a1, .ref (B + 165)] y_Mo_rules 1 [.ref (B + 152), .int a1] true N M B := by
  have hB := h.1.1
  rcases noN_or a1 2 with hx | ⟨j, rfl, hj, -⟩
  · exact jthr h hm ho hN (t1_La_rules _ hB (x_RD_rules h a1 hx)) (by omega) (by omega) (fun N1 M1 hq => ⟨_, x_Mo_rules hq a1 hx, fun w N2 M2 ⟨a, b, c, d⟩ => ⟨b, d, ⟨_, a⟩, c⟩⟩)
  · exact jok h hm ho (fun v N' M' ⟨e1, e2, e3⟩ => by subst e1; subst e2; subst e3; exact ⟨rfl, fun _ _ => rfl, _, tn, ts, mm, rr, gn, gs, rfl, h, fun N1 M1 hq => ⟨_, k_Mo_rules hq j hj, fun w N2 M2 ⟨a, b, c, d⟩ => ⟨b, fun x hx => d x (by omega), a, c⟩⟩⟩) (h_La_rules _ hB (g_of_val (k_RD_rules h j hj)))
theorem j_rule (h : OA E M B tn ts mm rr gn gs) (hm : OM E M (B + 152) th tn ts mm rr gn gs) (ho : M (B + 165) = some (g_la E 1 fo)) (hN : B + 166 ≤ N) (a1 a2 a3 : Int32) : jn l E y_La_rule 9 [.ref B, .int a1, .int a2, .int a3, .ref (B + 165)] y_Mo_rule 2 [.ref (B + 152), .int a1, .int a2, .int a3] true N M B := by
  have hB := h.1.1
  rcases noN_or a1 2 with hx | ⟨j, rfl, hj, -⟩
  · exact jthr h hm ho hN (t1_La_rule _ _ _ hB (xl_RD_rule h a1 a2 a3 hx)) (by omega) (by omega) (fun N1 M1 hq => ⟨_, xl_Mo_rule hq a1 a2 a3 hx, fun w N2 M2 ⟨a, b, c, d⟩ => ⟨b, d, ⟨_, a⟩, c⟩⟩)
  rcases noN_or a2 (mm j) with hy | ⟨i, rfl, hi, -⟩
  · exact jthr h hm ho hN (t2_La_rule _ _ _ hB (x_RD_rule h j hj a2 a3 hy)) (by omega) (by omega) (fun N1 M1 hq => ⟨_, x_Mo_rule hq j hj a2 a3 hy, fun w N2 M2 ⟨a, b, c, d⟩ => ⟨b, d, ⟨_, a⟩, c⟩⟩)
  rcases noN_or a3 9 with hz | ⟨w, rfl, hw, -⟩
  · exact jthr h hm ho hN (t2_La_rule _ _ _ hB (xw_RD_rule h j i hj hi a3 hz)) (by omega) (by omega) (fun N1 M1 hq => ⟨_, xw_Mo_rule hq j i hj hi a3 hz, fun w N2 M2 ⟨a, b, c, d⟩ => ⟨b, d, ⟨_, a⟩, c⟩⟩)
  · exact jok h hm ho (fun v N' M' ⟨e1, e2, e3⟩ => by subst e1; subst e2; subst e3; exact ⟨rfl, fun _ _ => rfl, _, tn, ts, mm, rr, gn, gs, rfl, h, fun N1 M1 hq => ⟨_, k_Mo_rule hq j i w hj hi hw, fun w N2 M2 ⟨a, b, c, d⟩ => ⟨b, fun x hx => d x (by omega), a, c⟩⟩⟩) (h_La_rule _ _ _ hB (g_of_val (k_RD_rule h j i w hj hi hw)))
theorem j_verdict (h : OA E M B tn ts mm rr gn gs) (hm : OM E M (B + 152) th tn ts mm rr gn gs) (ho : M (B + 165) = some (g_la E 1 fo)) (hN : B + 166 ≤ N) (a1 a2 a3 a4 a5 : Int32) : jn l E y_La_verdict 9 [.ref B, .int a1, .int a2, .int a3, .int a4, .int a5, .ref (B + 165)] y_Mo_verdict 4 [.ref (B + 152), .int a1, .int a2, .int a3, .int a4, .int a5] true N M B := by
  have hB := h.1.1
  rcases noN_or a1 2 with hx | ⟨j, rfl, hj, -⟩
  · exact jthr h hm ho hN (t1_La_verdict _ _ _ _ _ hB (xl_RD_verdict h a1 a2 a3 a4 a5 hx)) (by omega) (by omega) (fun N1 M1 hq => ⟨_, xl_Mo_verdict hq a1 a2 a3 a4 a5 hx, fun w N2 M2 ⟨a, b, c, d⟩ => ⟨b, d, ⟨_, a⟩, c⟩⟩)
  rcases noP_or2 a2 a3 a4 a5 with hp | ⟨a', b', c', d', rfl, rfl, rfl, rfl, ha, hb, hc, hd⟩
  · exact jthr h hm ho hN (t2_La_verdict _ _ _ _ _ hB (x_RD_verdict h j hj a2 a3 a4 a5 hp)) (by omega) (by omega) (fun N1 M1 hq => ⟨_, x_Mo_verdict hq j hj a2 a3 a4 a5 hp, fun w N2 M2 ⟨a, b, c, d⟩ => ⟨b, d, ⟨_, a⟩, c⟩⟩)
  · exact jok h hm ho (fun v N' M' ⟨e1, e2, e3⟩ => by subst e1; subst e2; subst e3; exact ⟨rfl, fun _ _ => rfl, _, tn, ts, mm, rr, gn, gs, rfl, h, fun N1 M1 hq => ⟨_, k_Mo_verdict hq j a' b' c' d' hj ha hb hc hd, fun w N2 M2 ⟨a, b, c, d⟩ => ⟨b, fun x hx => d x (by omega), a, c⟩⟩⟩) (h_La_verdict _ _ _ _ _ hB (g_of_val (k_RD_verdict h j a' b' c' d' hj ha hb hc hd)))
theorem j_first (h : OA E M B tn ts mm rr gn gs) (hm : OM E M (B + 152) th tn ts mm rr gn gs) (ho : M (B + 165) = some (g_la E 1 fo)) (hN : B + 166 ≤ N) (a1 a2 a3 a4 a5 : Int32) : jn l E y_La_first 9 [.ref B, .int a1, .int a2, .int a3, .int a4, .int a5, .ref (B + 165)] y_Mo_first 3 [.ref (B + 152), .int a1, .int a2, .int a3, .int a4, .int a5] true N M B := by
  have hB := h.1.1
  rcases noN_or a1 2 with hx | ⟨j, rfl, hj, -⟩
  · exact jthr h hm ho hN (t1_La_first _ _ _ _ _ hB (xl_RD_first h a1 a2 a3 a4 a5 hx)) (by omega) (by omega) (fun N1 M1 hq => ⟨_, xl_Mo_first hq a1 a2 a3 a4 a5 hx, fun w N2 M2 ⟨a, b, c, d⟩ => ⟨b, d, ⟨_, a⟩, c⟩⟩)
  rcases noP_or2 a2 a3 a4 a5 with hp | ⟨a', b', c', d', rfl, rfl, rfl, rfl, ha, hb, hc, hd⟩
  · exact jthr h hm ho hN (t2_La_first _ _ _ _ _ hB (x_RD_first h j hj a2 a3 a4 a5 hp)) (by omega) (by omega) (fun N1 M1 hq => ⟨_, x_Mo_first hq j hj a2 a3 a4 a5 hp, fun w N2 M2 ⟨a, b, c, d⟩ => ⟨b, d, ⟨_, a⟩, c⟩⟩)
  · exact jok h hm ho (fun v N' M' ⟨e1, e2, e3⟩ => by subst e1; subst e2; subst e3; exact ⟨rfl, fun _ _ => rfl, _, tn, ts, mm, rr, gn, gs, rfl, h, fun N1 M1 hq => ⟨_, k_Mo_first hq j a' b' c' d' hj ha hb hc hd, fun w N2 M2 ⟨a, b, c, d⟩ => ⟨b, fun x hx => d x (by omega), a, c⟩⟩⟩) (h_La_first _ _ _ _ _ hB (g_of_val (k_RD_first h j a' b' c' d' hj ha hb hc hd)))
theorem j_count (h : OA E M B tn ts mm rr gn gs) (hm : OM E M (B + 152) th tn ts mm rr gn gs) (ho : M (B + 165) = some (g_la E 1 fo)) (hN : B + 166 ≤ N) (a1 a2 : Int32) : jn l E y_La_count 8 [.ref B, .int a1, .int a2, .ref (B + 165)] y_Mo_count 5 [.ref (B + 152), .int a1, .int a2] true N M B := by
  have hB := h.1.1
  have hm8 := (hm.2.2.1.1)
  rcases noN_or a1 2 with hx | ⟨j, rfl, hj, -⟩
  · exact jthr h hm ho hN (t1_La_count _ _ hB (xl_RD_count h a1 a2 hx)) (by omega) (by omega) (fun N1 M1 hq => ⟨_, xl_Mo_count hq a1 a2 hx, fun w N2 M2 ⟨a, b, c, d⟩ => ⟨b, d, ⟨_, a⟩, c⟩⟩)
  rcases noN_or a2 3 with hy | ⟨v, rfl, hv, -⟩
  · exact jthr h hm ho hN (t2_La_count _ _ hB (x_RD_count h j hj a2 hy)) (by omega) (by omega) (fun N1 M1 hq => ⟨_, x_Mo_count hq j hj a2 hy, fun w N2 M2 ⟨a, b, c, d⟩ => ⟨b, d, ⟨_, a⟩, c⟩⟩)
  · exact jok h hm ho (fun v N' M' ⟨e1, e2, e3, e4⟩ => by subst e1; subst e2; exact ⟨rfl, e4, _, tn, ts, mm, rr, gn, gs, rfl, e3, fun N1 M1 hq => ⟨_, k_Mo_count hq j v hj hv, fun w N2 M2 ⟨a, b, c, d⟩ => ⟨b, d, by rw [a, cntV_apk (rr j) (hm8 j hj).1 v], c⟩⟩⟩) (h_La_count _ _ hB (k_RD_count h j v hj hv))
theorem j_used (h : OA E M B tn ts mm rr gn gs) (hm : OM E M (B + 152) th tn ts mm rr gn gs) (ho : M (B + 165) = some (g_la E 1 fo)) (hN : B + 166 ≤ N) (a1 a2 : Int32) : jn l E y_La_used 9 [.ref B, .int a1, .int a2, .ref (B + 165)] y_Mo_used 5 [.ref (B + 152), .int a1, .int a2] true N M B := by
  have hB := h.1.1
  have hm8 := (hm.2.2.1.1)
  rcases noN_or a1 2 with hx | ⟨j, rfl, hj, -⟩
  · exact jthr h hm ho hN (t1_La_used _ _ hB (xl_RD_used h a1 a2 hx)) (by omega) (by omega) (fun N1 M1 hq => ⟨_, xl_Mo_used hq a1 a2 hx, fun w N2 M2 ⟨a, b, c, d⟩ => ⟨b, d, ⟨_, a⟩, c⟩⟩)
  rcases noN_or a2 (mm j) with hy | ⟨i, rfl, hi, -⟩
  · exact jthr h hm ho hN (t2_La_used _ _ hB (x_RD_used h j hj a2 hy)) (by omega) (by omega) (fun N1 M1 hq => ⟨_, x_Mo_used hq j hj a2 hy, fun w N2 M2 ⟨a, b, c, d⟩ => ⟨b, d, ⟨_, a⟩, c⟩⟩)
  · exact jok h hm ho (fun v N' M' ⟨e1, e2, e3, e4⟩ => by subst e1; subst e2; exact ⟨rfl, e4, _, tn, ts, mm, rr, gn, gs, rfl, e3, fun N1 M1 hq => ⟨_, k_Mo_used hq j i hj hi, fun w N2 M2 ⟨a, b, c, d⟩ => ⟨b, d, by rw [a, usdV_apk (rr j) (hm8 j hj).1 hi], c⟩⟩⟩) (h_La_used _ _ hB (k_RD_used h j i hj hi))
theorem j_nodes (h : OA E M B tn ts mm rr gn gs) (hm : OM E M (B + 152) th tn ts mm rr gn gs) (ho : M (B + 165) = some (g_la E 1 fo)) (hN : B + 166 ≤ N) (a1 a2 : Int32) : jn l E y_La_nodes 8 [.ref B, .int a1, .int a2, .ref (B + 165)] y_Mo_nodes 5 [.ref (B + 152), .int a1, .int a2] true N M B := by
  have hB := h.1.1
  rcases noN_or a1 2 with hx | ⟨j, rfl, hj, -⟩
  · exact jthr h hm ho hN (t1_La_nodes _ _ hB (xl_RD_nodes h a1 a2 hx)) (by omega) (by omega) (fun N1 M1 hq => ⟨_, xl_Mo_nodes hq a1 a2 hx, fun w N2 M2 ⟨a, b, c, d⟩ => ⟨b, d, ⟨_, a⟩, c⟩⟩)
  rcases noN_or a2 4 with hy | ⟨f, rfl, hf, -⟩
  · exact jthr h hm ho hN (t2_La_nodes _ _ hB (x_RD_nodes h j hj a2 hy)) (by omega) (by omega) (fun N1 M1 hq => ⟨_, x_Mo_nodes hq j hj a2 hy, fun w N2 M2 ⟨a, b, c, d⟩ => ⟨b, d, ⟨_, a⟩, c⟩⟩)
  · exact jok h hm ho (fun v N' M' ⟨⟨V, e1, hV⟩, e2, e3, e4⟩ => by subst e1; subst e2; exact ⟨rfl, e4, _, tn, ts, mm, rr, gn, gs, rfl, e3, fun N1 M1 hq => ⟨_, k_Mo_nodes hq j f hj hf V hV, fun w N2 M2 ⟨a, b, c, d⟩ => ⟨b, d, a, c⟩⟩⟩) (h_La_nodes _ _ hB (k_RD_nodes h j f hj hf))
theorem j_edges (h : OA E M B tn ts mm rr gn gs) (hm : OM E M (B + 152) th tn ts mm rr gn gs) (ho : M (B + 165) = some (g_la E 1 fo)) (hN : B + 166 ≤ N) (a1 : Int32) : jn l E y_La_edges 8 [.ref B, .int a1, .ref (B + 165)] y_Mo_edges 5 [.ref (B + 152), .int a1] true N M B := by
  have hB := h.1.1
  rcases noN_or a1 2 with hx | ⟨j, rfl, hj, -⟩
  · exact jthr h hm ho hN (t1_La_edges _ hB (x_RD_edges h a1 hx)) (by omega) (by omega) (fun N1 M1 hq => ⟨_, x_Mo_edges hq a1 hx, fun w N2 M2 ⟨a, b, c, d⟩ => ⟨b, d, ⟨_, a⟩, c⟩⟩)
  · exact jok h hm ho (fun v N' M' ⟨⟨V, e1, hV⟩, e2, e3, e4⟩ => by subst e1; subst e2; exact ⟨rfl, e4, _, tn, ts, mm, rr, gn, gs, rfl, e3, fun N1 M1 hq => ⟨_, k_Mo_edges hq j hj V hV, fun w N2 M2 ⟨a, b, c, d⟩ => ⟨b, d, a, c⟩⟩⟩) (h_La_edges _ hB (k_RD_edges h j hj))
theorem j_witness (h : OA E M B tn ts mm rr gn gs) (hm : OM E M (B + 152) th tn ts mm rr gn gs) (ho : M (B + 165) = some (g_la E 1 fo)) (hN : B + 166 ≤ N) (a1 : Int32) : jn l E y_La_witness 12 [.ref B, .int a1, .ref (B + 165)] y_Mo_witness 5 [.ref (B + 152), .int a1] true N M B := by
  have hB := h.1.1
  have hm8 := (hm.2.2.1.1)
  have hle := fux_lea (rr 0) (rr 1) (hm8 0 (by omega)).1 (hm8 1 (by omega)).1
  rcases noN_or a1 4 with hx | ⟨f, rfl, hf, -⟩
  · exact jthr h hm ho hN (t1_La_witness _ hB (x_RD_witness h a1 hx)) (by omega) (by omega) (fun N1 M1 hq => ⟨_, x_Mo_witness hq a1 hx, fun w N2 M2 ⟨a, b, c, d⟩ => ⟨b, d, ⟨_, a⟩, c⟩⟩)
  · exact jok h hm ho (fun v N' M' ⟨e1, e2, e3, e4⟩ => by subst e1; subst e2; exact ⟨rfl, e4, _, tn, ts, mm, rr, gn, gs, rfl, e3, fun N1 M1 hq => ⟨_, k_Mo_witness hq f hf _ hle, fun w N2 M2 ⟨a, b, c, d⟩ => ⟨b, d, a, c⟩⟩⟩) (h_La_witness _ hB (k_RD_witness h f hf))
theorem j_prune (h : OA E M B tn ts mm rr gn gs) (hm : OM E M (B + 152) th tn ts mm rr gn gs) (ho : M (B + 165) = some (g_la E 1 fo)) (hN : B + 166 ≤ N) (a1 : Int32) : jn l E y_La_prune 8 [.ref B, .int a1, .ref (B + 165)] y_Mo_prune 5 [.ref (B + 152), .int a1] true N M B := by
  have hB := h.1.1
  rcases noN_or a1 2 with hx | ⟨j, rfl, hj, -⟩
  · exact jthr h hm ho hN (t1_La_prune _ hB (x_RD_prune h a1 hx)) (by omega) (by omega) (fun N1 M1 hq => ⟨_, x_Mo_prune hq a1 hx, fun w N2 M2 ⟨a, b, c, d⟩ => ⟨b, d, ⟨_, a⟩, c⟩⟩)
  · exact jok h hm ho (fun v N' M' ⟨e1, e2, e3, e4⟩ => by subst e1; subst e2; exact ⟨rfl, e4, _, tn, ts, va_up mm j (prn (usdV (rr j) (mm j)) (mm j) (mm j) (rr j) 0).1, va_up rr j (prn (usdV (rr j) (mm j)) (mm j) (mm j) (rr j) 0).2.1, gn, gs, rfl, e3, fun N1 M1 hq => ⟨_, k_Mo_prune hq j hj, fun w N2 M2 ⟨a, b, c, d⟩ => ⟨b, d, a, c⟩⟩⟩) (h_La_prune _ hB (k_RD_prune h j hj))
theorem j_pass (h : OA E M B tn ts mm rr gn gs) (hm : OM E M (B + 152) th tn ts mm rr gn gs) (ho : M (B + 165) = some (g_la E 1 fo)) (hN : B + 166 ≤ N) (a1 a2 a3 a4 a5 : Int32) : jn l E y_La_pass 9 [.ref B, .int a1, .int a2, .int a3, .int a4, .int a5, .ref (B + 165)] y_Mo_pass 4 [.ref (B + 152), .int a1, .int a2, .int a3, .int a4, .int a5] true N M B := by
  have hB := h.1.1
  rcases noN_or a1 2 with hx | ⟨j, rfl, hj, -⟩
  · exact jthr h hm ho hN (t1_La_pass _ _ _ _ _ hB (xl_RD_pass h a1 a2 a3 a4 a5 hx)) (by omega) (by omega) (fun N1 M1 hq => ⟨_, xl_Mo_pass hq a1 a2 a3 a4 a5 hx, fun w N2 M2 ⟨a, b, c, d⟩ => ⟨b, d, ⟨_, a⟩, c⟩⟩)
  rcases noP_or2 a2 a3 a4 a5 with hp | ⟨a', b', c', d', rfl, rfl, rfl, rfl, ha, hb, hc, hd⟩
  · exact jthr h hm ho hN (t2_La_pass _ _ _ _ _ hB (x_RD_pass h j hj a2 a3 a4 a5 hp)) (by omega) (by omega) (fun N1 M1 hq => ⟨_, x_Mo_pass hq j hj a2 a3 a4 a5 hp, fun w N2 M2 ⟨a, b, c, d⟩ => ⟨b, d, ⟨_, a⟩, c⟩⟩)
  · refine jok h hm ho (fun v N' M' hp => ?_) (h_La_pass _ _ _ _ _ hB (k_RD_pass h j a' b' c' d' hj ha hb hc hd))
    obtain ⟨e1, e2, hcase⟩ := hp
    subst e1
    rcases hcase with ⟨c1, rfl, hOA⟩ | ⟨c1, rfl, ⟨c2, hOA⟩ | ⟨c2, hOA⟩⟩
    · refine ⟨rfl, e2, _, _, _, _, _, _, _, rfl, hOA, fun N1 M1 hq => ⟨_, k_Mo_pass hq j a' b' c' d' hj ha hb hc hd, fun w N2 M2 hw => ?_⟩⟩
      obtain ⟨r1, r2, hcase⟩ := hw
      rcases hcase with ⟨q1, q2, hOM⟩ | ⟨q1, q2, -⟩
      · exact ⟨r1, r2, q2, hOM⟩
      · exact absurd c1 q1
    · refine ⟨rfl, e2, _, _, _, _, _, _, _, rfl, hOA, fun N1 M1 hq => ⟨_, k_Mo_pass hq j a' b' c' d' hj ha hb hc hd, fun w N2 M2 hw => ?_⟩⟩
      obtain ⟨r1, r2, hcase⟩ := hw
      rcases hcase with ⟨q1, q2, hOM⟩ | ⟨q1, q2, ⟨q3, hOM⟩ | ⟨q3, hOM⟩⟩
      · exact absurd q1 c1
      · exact ⟨r1, r2, q2, hOM⟩
      · exact absurd c2 q3
    · refine ⟨rfl, e2, _, _, _, _, _, _, _, rfl, hOA, fun N1 M1 hq => ⟨_, k_Mo_pass hq j a' b' c' d' hj ha hb hc hd, fun w N2 M2 hw => ?_⟩⟩
      obtain ⟨r1, r2, hcase⟩ := hw
      rcases hcase with ⟨q1, q2, hOM⟩ | ⟨q1, q2, ⟨q3, hOM⟩ | ⟨q3, hOM⟩⟩
      · exact absurd q1 c1
      · exact absurd q3 c2
      · exact ⟨r1, r2, q2, hOM⟩
theorem j_connection (h : OA E M B tn ts mm rr gn gs) (hm : OM E M (B + 152) th tn ts mm rr gn gs) (ho : M (B + 165) = some (g_la E 1 fo)) (hN : B + 166 ≤ N) (a1 a2 : Int32) : jn l E y_La_connection 8 [.ref B, .int a1, .int a2, .ref (B + 165)] y_Mo_connection 1 [.ref (B + 152), .int a1, .int a2] true N M B := by
  have hB := h.1.1
  rcases noN_or a2 4 with hy | ⟨f, rfl, hf, -⟩
  · exact jthr h hm ho hN (t1_La_connection _ _ hB (x_RD_connection h a1 a2 hy)) (by omega) (by omega) (fun N1 M1 hq => ⟨_, x_Mo_connection hq a1 a2 hy, fun w N2 M2 ⟨a, b, c, d⟩ => ⟨b, d, ⟨_, a⟩, c⟩⟩)
  by_cases hx : a1 < 0
  · exact jok h hm ho (fun v N' M' ⟨e1, e2, e3⟩ => by subst e1; subst e2; subst e3; exact ⟨rfl, fun _ _ => rfl, _, tn, ts, mm, rr, gn, gs, rfl, h, fun N1 M1 hq => ⟨_, km_Mo_connection hq a1 f hf hx, fun w N2 M2 ⟨a, b, c, d⟩ => ⟨b, fun x hx => d x (by omega), a, c⟩⟩⟩) (h_La_connection _ _ hB (g_of_val (km_RD_connection h a1 f hf hx)))
  · obtain ⟨i, hi, rfl⟩ := nI_of hx
    exact jok h hm ho (fun v N' M' ⟨e1, e2, e3⟩ => by subst e1; subst e2; subst e3; exact ⟨rfl, fun _ _ => rfl, _, tn, ts, mm, rr, gn, gs, rfl, h, fun N1 M1 hq => ⟨_, k_Mo_connection hq i f hf hi, fun w N2 M2 ⟨a, b, c, d⟩ => ⟨b, fun x hx => d x (by omega), a, c⟩⟩⟩) (h_La_connection _ _ hB (g_of_val (k_RD_connection h i f hf hi)))
theorem j_read (h : OA E M B tn ts mm rr gn gs) (hm : OM E M (B + 152) th tn ts mm rr gn gs) (ho : M (B + 165) = some (g_la E 1 fo)) (hN : B + 166 ≤ N) (a1 : Int32) : jn l E y_La_read 11 [.ref B, .int a1, .ref (B + 165)] y_Mo_read 5 [.ref (B + 152), .int a1] true N M B := by
  have hB := h.1.1
  rcases noN_or a1 2 with hx | ⟨j, rfl, hj, -⟩
  · exact jthr h hm ho hN (t1_La_read _ hB (x_RD_read h a1 hx)) (by omega) (by omega) (fun N1 M1 hq => ⟨_, x_Mo_read hq a1 hx, fun w N2 M2 ⟨a, b, c, d⟩ => ⟨b, d, ⟨_, a⟩, c⟩⟩)
  · have hm8 := (hm.2.2.1.1 j hj).1
    obtain ⟨z0, hC⟩ := k_RD_read (l := l) (N := N) h j hj
    refine jok h hm ho (fun v N' M' hp => ?_) (h_La_read _ hB hC)
    obtain ⟨e1, e2, hcase⟩ := hp
    subst e1
    rcases hcase with ⟨c1, rfl, hOA⟩ | ⟨c1, c2, rfl, hOA⟩ | ⟨c1, c2, rfl, r', hOA, g1, g2⟩
    · refine ⟨rfl, e2, _, _, _, _, _, _, _, rfl, hOA, fun N1 M1 hq => ⟨_, k_Mo_read hq j hj z0, fun w N2 M2 hw => ?_⟩⟩
      obtain ⟨r1, r2, hcase⟩ := hw
      rcases hcase with ⟨q1, q2, hOM⟩ | ⟨q1, -⟩ | ⟨q1, -⟩
      · exact ⟨r1, r2, q2, hOM⟩
      · rw [c1] at q1; cases q1
      · rw [c1] at q1; cases q1
    · refine ⟨rfl, e2, _, _, _, _, _, _, _, rfl, hOA, fun N1 M1 hq => ⟨_, k_Mo_read hq j hj z0, fun w N2 M2 hw => ?_⟩⟩
      obtain ⟨r1, r2, hcase⟩ := hw
      rcases hcase with ⟨q1, -⟩ | ⟨q1, q2, q3, hOM⟩ | ⟨q1, q2, -⟩
      · rw [c1] at q1; cases q1
      · exact ⟨r1, r2, q3, hOM⟩
      · omega
    · refine ⟨rfl, e2, _, _, _, _, _, _, _, rfl, hOA, fun N1 M1 hq => ⟨_, k_Mo_read hq j hj z0, fun w N2 M2 hw => ?_⟩⟩
      obtain ⟨r1, r2, hcase⟩ := hw
      rcases hcase with ⟨q1, -⟩ | ⟨q1, q2, -⟩ | ⟨q1, q2, q3, rm, hOM, p1, p2⟩
      · rw [c1] at q1; cases q1
      · omega
      · refine ⟨r1, r2, q3, hOM.req (fun j' i hj' hi => ?_)⟩
        by_cases e : j' = j
        · subst e
          rw [va_up_self] at hi ⊢
          rw [va_up_self]
          by_cases ci : i < mm j'
          · rw [g1 i ci, p1 i ci]
            exact ⟨rfl, fun _ _ => ⟨rfl, rfl⟩⟩
          · obtain ⟨k, rfl⟩ : ∃ k, i = mm j' + k := ⟨i - mm j', by omega⟩
            rw [p2 k (by omega)]
            exact g2 k (by omega)
        · rw [va_up_ne _ _ e, va_up_ne _ _ e]
          exact ⟨rfl, fun _ _ => ⟨rfl, rfl⟩⟩
end JOINT

