/-! The relation without the phase and the counts of the phases: they move first in the component, last in the reference. -/
def pm_bux (C R : wk_Sg) : Prop := C (10, 0, 0) 6 = R (20, 0, 0) 18 ∧ C (10, 0, 0) 7 = R (20, 0, 0) 19 ∧ C (10, 0, 0) 8 = R (20, 0, 0) 20 ∧ C (10, 0, 0) 4 = R (20, 0, 0) 21
def pm_E (P : Nat → Nat) (C R : wk_Sg) : Prop := C (0, 0, 0) 3 = R (20, 0, 0) 7 ∧ pm_c1 P C ∧ pm_c2 P R ∧ pm_mem P C R ∧ pm_code P C R ∧ pm_reg P C R ∧ pm_cpu P C R ∧ pm_slot P C R ∧ pm_bux C R ∧ pm_kept P C R
section PMX
variable {P : Nat → Nat} {C R C' R' : wk_Sg} {x y : Int32}
theorem pm_D.e (h : pm_D P C R) : pm_E P C R := ⟨h.1, h.2.1, h.2.2.1, h.2.2.2.1, h.2.2.2.2.1, h.2.2.2.2.2.1, h.2.2.2.2.2.2.1, h.2.2.2.2.2.2.2.1, h.2.2.2.2.2.2.2.2.1.2, h.2.2.2.2.2.2.2.2.2.1⟩
theorem pm_E.d (h : pm_E P C R) (h5 : C (10, 0, 0) 5 = R (20, 0, 0) 17) (hd : pm_done C R) : pm_D P C R := ⟨h.1, h.2.1, h.2.2.1, h.2.2.2.1, h.2.2.2.2.1, h.2.2.2.2.2.1, h.2.2.2.2.2.2.1, h.2.2.2.2.2.2.2.1, ⟨h5, h.2.2.2.2.2.2.2.2.1⟩, h.2.2.2.2.2.2.2.2.2, hd⟩
theorem pm_E.cp (h : pm_E P C R) {i k t : Nat} (hkt : (k = 5 ∧ t = 24) ∨ (k = 6 ∧ t = 25) ∨ (k = 7 ∧ t = 26) ∨ (k = 8 ∧ t = 27) ∨ (k = 9 ∧ t = 28)) (hx : x = y) : pm_E P (wk_up C (4, i, 0) k x) (wk_up R (t, 0, 0) i y) := by
  subst hx
  obtain ⟨h0, ⟨h1a, h1b⟩, h2, h3, h4, h5, h6, h7, h8, h9⟩ := h
  rcases hkt with ⟨rfl, rfl⟩ | ⟨rfl, rfl⟩ | ⟨rfl, rfl⟩ | ⟨rfl, rfl⟩ | ⟨rfl, rfl⟩ <;>
  · refine ⟨by simpa [wk_up_at] using h0, ⟨by simpa [wk_up_at] using h1a, fun i hi => by simpa [wk_up_at] using h1b i hi⟩, by simpa [pm_c2, wk_up_at] using h2, fun b hb => by simpa [wk_up_at] using h3 b hb, fun i p hi hp => by simpa [wk_up_at] using h4 i p hi hp, fun i k hi hk => by simpa [wk_up_at] using h5 i k hi hk, fun i' hi' => ?_, fun i j hi hj => by simpa [wk_up_at] using h7 i j hi hj, by simpa [pm_bux, wk_up_at] using h8, fun k hk => by simpa [wk_up_at] using h9 k hk⟩
    obtain ⟨g1, g2, g3, g4, g5⟩ := h6 i' hi'
    simp [wk_up_at, g1, g2, g3, g4, g5]
theorem pm_E.em (hP : pm_P P) (h : pm_E P C R) {i j : Nat} (hi : i < P 0) (hj : j < P 1) : pm_E P (wk_up (wk_up C (8, i, j) 1 0) (8, i, j) 2 (-1)) (pr_E R (8 * i + j)) := by
  obtain ⟨h0, ⟨h1a, h1b⟩, h2, h3, h4, h5, h6, h7, h8, h9⟩ := h
  unfold pr_E
  refine ⟨by simpa [wk_up_at, wk_su_at] using h0, ⟨by simpa [wk_up_at] using h1a, fun i hi => by simpa [wk_up_at] using h1b i hi⟩, by simpa [pm_c2, wk_up_at, wk_su_at] using h2, fun b hb => by simpa [wk_up_at, wk_su_at] using h3 b hb, fun i p hi hp => by simpa [wk_up_at, wk_su_at] using h4 i p hi hp, fun i k hi hk => by simpa [wk_up_at, wk_su_at] using h5 i k hi hk, fun i hi => by simpa [wk_up_at, wk_su_at] using h6 i hi, fun i' j' hi' hj' => ?_, by simpa [pm_bux, wk_up_at, wk_su_at] using h8, fun k hk => by simpa [wk_up_at, wk_su_at] using h9 k hk⟩
  unfold pm_P at hP
  obtain ⟨g1, g2, g3⟩ := h7 i' j' hi' hj'
  by_cases e : i' = i ∧ j' = j
  · obtain ⟨rfl, rfl⟩ := e
    refine ⟨by simp [wk_up_at, wk_su_at], by simp [wk_up_at, wk_su_at], fun k hk => ⟨fun _ => ?_, fun q => ?_⟩⟩
    · simp only [wk_su_at, if_true]
      rw [if_pos (by omega)]
    · simp [wk_up_at] at q
  · have n1 : ¬ 8 * i' + j' = 8 * i + j := by omega
    have n2 : ¬ ((8, i', j') : wk_K3) = (8, i, j) := by simp; omega
    refine ⟨by simpa [wk_up_at, wk_su_at, n1, n2] using g1, by simpa [wk_up_at, wk_su_at, n1, n2] using g2, fun k hk => ?_⟩
    have n3 : ¬ (4 * (8 * i + j) ≤ 4 * (8 * i' + j') + k ∧ 4 * (8 * i' + j') + k < 4 * (8 * i + j) + 4) := by omega
    have e1 : wk_up (wk_up C (8, i, j) 1 0) (8, i, j) 2 (-1) (8, i', j') = C (8, i', j') := by rw [wk_up_ne _ _ _ n2, wk_up_ne _ _ _ n2]
    have e2 : wk_up (wk_up C (8, i, j) 1 0) (8, i, j) 2 (-1) (9, i', j') = C (9, i', j') := by rw [wk_up_ne _ _ _ (by simp), wk_up_ne _ _ _ (by simp)]
    rw [e1, e2, wk_su_self, if_neg n3]
    exact g3 k hk
theorem pm_E.wb (hP : pm_P P) (h : pm_E P C R) {i j n : Nat} (hi : i < P 0) (hj : j < P 1) (hs : ¬ C (8, i, j) 1 = 0) : pm_E P (wk_su C (2, 0, 0) (va_cpy (C (9, i, j)) (C (2, 0, 0)) 0 (P 2 * n) (P 2))) (pr_W R (P 2) n (8 * i + j)) := by
  obtain ⟨h0, ⟨h1a, h1b⟩, h2, h3, h4, h5, h6, h7, h8, h9⟩ := h
  unfold pr_W
  refine ⟨by simpa [wk_su_at] using h0, ⟨by simpa [wk_su_at] using h1a, fun i hi => by simpa [wk_su_at] using h1b i hi⟩, by simpa [pm_c2, wk_su_at] using h2, fun b hb => ?_, fun i p hi hp => by simpa [wk_su_at] using h4 i p hi hp, fun i k hi hk => by simpa [wk_su_at] using h5 i k hi hk, fun i hi => by simpa [wk_su_at] using h6 i hi, fun i j hi hj => by simpa [wk_su_at] using h7 i j hi hj, by simpa [pm_bux, wk_su_at] using h8, fun k hk => by simpa [wk_su_at] using h9 k hk⟩
  rw [wk_su_self, wk_su_self, h3 b hb |> fun e => show va_cpy (C (9, i, j)) (C (2, 0, 0)) 0 (P 2 * n) (P 2) b = if P 2 * n ≤ b ∧ b < P 2 * n + P 2 then C (9, i, j) (0 + (b - P 2 * n)) else R (21, 0, 0) b from by rw [← e]; rfl]
  by_cases hb2 : P 2 * n ≤ b ∧ b < P 2 * n + P 2
  · rw [if_pos hb2, if_pos hb2, Nat.zero_add]
    exact ((h7 i j hi hj).2.2 (b - P 2 * n) (by omega)).2 hs
  · rw [if_neg hb2, if_neg hb2]
theorem pm_E.s4 (hP : pm_P P) (h : pm_E P C R) {i j : Nat} (hi : i < P 0) (hj : j < P 1) (hs : ¬ C (8, i, j) 1 = 0) (hx : x = y) (hx0 : ¬ x = 0) : pm_E P (wk_up C (8, i, j) 1 x) (wk_up R (29, 0, 0) (8 * i + j) y) := by
  subst hx
  obtain ⟨h0, ⟨h1a, h1b⟩, h2, h3, h4, h5, h6, h7, h8, h9⟩ := h
  refine ⟨by simpa [wk_up_at] using h0, ⟨by simpa [wk_up_at] using h1a, fun i hi => by simpa [wk_up_at] using h1b i hi⟩, by simpa [pm_c2, wk_up_at] using h2, fun b hb => by simpa [wk_up_at] using h3 b hb, fun i p hi hp => by simpa [wk_up_at] using h4 i p hi hp, fun i k hi hk => by simpa [wk_up_at] using h5 i k hi hk, fun i hi => by simpa [wk_up_at] using h6 i hi, fun i' j' hi' hj' => ?_, by simpa [pm_bux, wk_up_at] using h8, fun k hk => by simpa [wk_up_at] using h9 k hk⟩
  unfold pm_P at hP
  obtain ⟨g1, g2, g3⟩ := h7 i' j' hi' hj'
  by_cases e : i' = i ∧ j' = j
  · obtain ⟨rfl, rfl⟩ := e
    refine ⟨by simp [wk_up_at], by simpa [wk_up_at] using g2, fun k hk => ?_⟩
    obtain ⟨g4, g5⟩ := g3 k hk
    simp [wk_up_at, hx0, g5 hs]
  · have n1 : ¬ 8 * i' + j' = 8 * i + j := by omega
    have n2 : ¬ ((8, i', j') : wk_K3) = (8, i, j) := by simp; omega
    refine ⟨by simpa [wk_up_at, n1, n2] using g1, by simpa [wk_up_at, n1, n2] using g2, fun k hk => ?_⟩
    rw [wk_up_ne _ _ _ n2, wk_up_ne _ _ _ (show ((9, i', j') : wk_K3) ≠ (8, i, j) by simp), wk_up_ne _ _ _ (show ((31, 0, 0) : wk_K3) ≠ (29, 0, 0) by simp)]
    exact g3 k hk
theorem pm_E.bu (h : pm_E P C R) {k t : Nat} (hkt : (k = 6 ∧ t = 18) ∨ (k = 7 ∧ t = 19) ∨ (k = 8 ∧ t = 20) ∨ (k = 4 ∧ t = 21)) (hx : x = y) : pm_E P (wk_up C (10, 0, 0) k x) (wk_up R (20, 0, 0) t y) := by
  subst hx
  obtain ⟨h0, ⟨h1a, h1b⟩, ⟨c0, c1, c2, c3, c4⟩, h3, h4, h5, h6, h7, ⟨b2, b3, b4, b5⟩, h9⟩ := h
  rcases hkt with ⟨rfl, rfl⟩ | ⟨rfl, rfl⟩ | ⟨rfl, rfl⟩ | ⟨rfl, rfl⟩ <;>
  · refine ⟨by simpa [wk_up_at] using h0, ⟨by simpa [wk_up_at] using h1a, fun i hi => by simpa [wk_up_at] using h1b i hi⟩, by simp [pm_c2, wk_up_at, c0, c1, c2, c3, c4], fun b hb => by simpa [wk_up_at] using h3 b hb, fun i p hi hp => by simpa [wk_up_at] using h4 i p hi hp, fun i k hi hk => by simpa [wk_up_at] using h5 i k hi hk, fun i hi => by simpa [wk_up_at] using h6 i hi, fun i j hi hj => by simpa [wk_up_at] using h7 i j hi hj, by simp [pm_bux, wk_up_at, b2, b3, b4, b5], fun k hk => by simpa [wk_up_at] using h9 k hk⟩
theorem pm_gu1e (hP : pm_P P) (hD : pm_E P C R) {i j n : Nat} (hi : i < P 0) (hj : j < P 1) (hd : pm_new C i j) (hn : n < P 5) (hl : C (8, i, j) 2 = nI n) : mg_X2_giveUp P C i j ∧ mg_X5_writeBack P R (nI (8 * i + j)) ∧ mg_X5_empty P (ms_X5_writeBack P R (nI (8 * i + j))) (nI (8 * i + j)) ∧ pm_E P (ms_X2_giveUp P C i j) (ms_X5_empty P (ms_X5_writeBack P R (nI (8 * i + j))) (nI (8 * i + j))) := by
  have hP' := hP
  unfold pm_P at hP
  have hw1 : C (1, 0, 0) 0 = nI (P 2) := hD.2.1.1
  have hc2 : R (20, 0, 0) 2 = nI (P 2) := hD.2.2.1.2.2.1
  have hb : P 2 * n + P 2 ≤ P 3 := by
    have : P 2 * (n + 1) ≤ P 2 * P 5 := Nat.mul_le_mul_left _ hn
    rw [Nat.mul_succ] at this
    omega
  have hR : R (30, 0, 0) (8 * i + j) = nI n := by rw [← (hD.2.2.2.2.2.2.2.1 i j hi hj).2.1]; exact hl
  obtain ⟨e1, e2⟩ := pr_back (P := P) (sg := R) (t := 8 * i + j) (w := P 2) (ln := n) (by omega) (by omega) (by omega) hc2 hR
  obtain ⟨e3, e4⟩ := pr_empty (P := P) (sg := ms_X5_writeBack P R (nI (8 * i + j))) (t := 8 * i + j) (by omega)
  have hk : mr_X3_isNewerThanMemory P C i j = 1 := by
    rcases pm_dirtyC (P := P) (C := C) (i := i) (j := j) with h | h
    · exact h.1
    · exact absurd hd h.2
  have e5 : nI n * nI (P 2) = nI (P 2 * n) := by rw [pn_mul, Nat.mul_comm]
  refine ⟨?_, e1, e3, ?_⟩
  · unfold mg_X2_giveUp
    rw [hk, hl, hw1, e5]
    refine ⟨fun h => absurd h (by decide), fun _ => ⟨⟨by decide, pn_nneg (by omega), pn_nneg (by omega), ?_, ?_⟩, trivial⟩⟩
    · rw [pn_clamp (show P 2 < 4000 by omega)]
      show 0 + P 2 ≤ P 2
      omega
    · rw [pn_clamp (show P 2 < 4000 by omega), pn_clamp (show P 2 * n < 4000 by omega)]
      omega
  · rw [e4, e2]
    unfold ms_X2_giveUp
    rw [hk, hl, hw1, e5, pn_clamp (show P 2 < 4000 by omega), pn_clamp (show P 2 * n < 4000 by omega), if_neg (by decide)]
    exact (hD.wb hP' hi hj hd.ne).em hP' hi hj
theorem pm_gu0e (hP : pm_P P) (hD : pm_E P C R) {i j : Nat} (hi : i < P 0) (hj : j < P 1) (hd : ¬ pm_new C i j) : mg_X2_giveUp P C i j ∧ mg_X5_empty P R (nI (8 * i + j)) ∧ pm_E P (ms_X2_giveUp P C i j) (ms_X5_empty P R (nI (8 * i + j))) := by
  have hP' := hP
  unfold pm_P at hP
  obtain ⟨e3, e4⟩ := pr_empty (P := P) (sg := R) (t := 8 * i + j) (by omega)
  have hk : mr_X3_isNewerThanMemory P C i j = 0 := by
    rcases pm_dirtyC (P := P) (C := C) (i := i) (j := j) with h | h
    · exact absurd h.2 hd
    · exact h.1
  refine ⟨?_, e3, ?_⟩
  · unfold mg_X2_giveUp
    rw [hk]
    exact ⟨fun _ => trivial, fun h => absurd rfl h⟩
  · rw [e4]
    unfold ms_X2_giveUp
    rw [hk, if_pos rfl]
    exact hD.em hP' hi hj
theorem pr_stateOfe (hP : pm_P P) (hD : pm_E P C R) (hI : pm_I P C) {i n : Nat} (hi : i < P 0) (hn : n < P 5) : (pm_hold P C i n ∧ mr_X5_stateOf P R (nI i) (nI n) = C (8, i, n % P 1) 1 ∧ ¬ mr_X5_stateOf P R (nI i) (nI n) = 0) ∨ (¬ pm_hold P C i n ∧ mr_X5_stateOf P R (nI i) (nI n) = 0) := by
  have hm := pm_mod hP n
  have hn4 : n < 4000 := by unfold pm_P at hP; omega
  obtain ⟨g1, g2, -⟩ := hD.2.2.2.2.2.2.2.1 i (n % P 1) hi hm.1
  have hi4 : 8 * i + n % P 1 < 4000 := by unfold pm_P at hP; omega
  unfold mr_X5_stateOf
  rw [pr_slotOf hP hD.2.2.1.2.1 hn4, pn_clamp hi4, ← g1, ← g2]
  by_cases h2 : C (8, i, n % P 1) 2 = nI n
  · rw [if_pos h2]
    rcases hI.2.2.1 i (n % P 1) hi hm.1 with q | q
    · rw [q.2] at h2
      exact absurd h2 (pn_neg1 hn4)
    · exact Or.inl ⟨⟨q.1, h2⟩, rfl, q.1⟩
  · rw [if_neg h2]
    exact Or.inr ⟨fun q => h2 q.2, rfl⟩
theorem pm_E.ph (h : pm_E P C R) (k : Nat) : pm_E P (wk_up (wk_up C (10, 0, 0) 5 x) (11, 0, 0) k y) R := by
  obtain ⟨h0, ⟨h1a, h1b⟩, h2, h3, h4, h5, h6, h7, h8, h9⟩ := h
  exact ⟨by simpa [wk_up_at] using h0, ⟨by simpa [wk_up_at] using h1a, fun i hi => by simpa [wk_up_at] using h1b i hi⟩, h2, fun b hb => by simpa [wk_up_at] using h3 b hb, fun i p hi hp => by simpa [wk_up_at] using h4 i p hi hp, fun i k hi hk => by simpa [wk_up_at] using h5 i k hi hk, fun i hi => by simpa [wk_up_at] using h6 i hi, fun i j hi hj => by simpa [wk_up_at] using h7 i j hi hj, by simpa [pm_bux, wk_up_at] using h8, fun k hk => by simpa [wk_up_at] using h9 k hk⟩
/-- the reference's phase at the end: the relation comes back whole -/
theorem pm_phase (h : pm_E P C R) {p : Nat} (hp : 1 ≤ p ∧ p ≤ 4) (h5 : C (10, 0, 0) 5 = if p = 4 then 0 else nI p) (hd : ∀ k, k < 4 → C (11, 0, 0) k = R (33, 0, 0) (k + 1) + if k + 1 = p then 1 else 0) : mg_X5_phase P R (nI p) ∧ mr_X5_phase P R (nI p) = nI p ∧ pm_D P C (ms_X5_phase P R (nI p)) := by
  have v5 : vp_in (nI p) 5 := pn_in (by omega) (by omega)
  have e4 : (nI p = 4) ↔ p = 4 := by rw [show (4 : Int32) = nI 4 from rfl]; exact pn_eq (by omega) (by omega)
  unfold mg_X5_phase mr_X5_phase ms_X5_phase
  rw [pn_clamp (show p < 4000 by omega)]
  refine ⟨⟨fun _ => ⟨v5, v5, trivial⟩, fun _ => ⟨v5, v5, trivial⟩⟩, by split <;> rfl, ?_⟩
  have key : ∀ z : Int32, C (10, 0, 0) 5 = z → pm_D P C (wk_up (wk_up R (20, 0, 0) 17 z) (33, 0, 0) p (wk_up R (20, 0, 0) 17 z (33, 0, 0) p + 1)) := by
    intro z hz
    obtain ⟨h0, ⟨h1a, h1b⟩, ⟨c0, c1, c2, c3, c4⟩, h3, h4, h5', h6, h7, ⟨b2, b3, b4, b5⟩, h9⟩ := h
    refine ⟨by simpa [wk_up_at] using h0, ⟨h1a, h1b⟩, by simp [pm_c2, wk_up_at, c0, c1, c2, c3, c4], fun b hb => by simpa [wk_up_at] using h3 b hb, fun i p hi hp => by simpa [wk_up_at] using h4 i p hi hp, fun i k hi hk => by simpa [wk_up_at] using h5' i k hi hk, fun i hi => by simpa [wk_up_at] using h6 i hi, fun i j hi hj => by simpa [wk_up_at] using h7 i j hi hj, by simp [pm_bus, wk_up_at, hz, b2, b3, b4, b5], fun k hk => by simpa [wk_up_at] using h9 k hk, fun k hk => ?_⟩
    rw [hd k hk]
    by_cases e : k + 1 = p
    · simp [wk_up_at, e]
    · simp [wk_up_at, e]
  by_cases e : p = 4
  · rw [if_pos (e4.mpr e)]
    exact key 0 (by rw [h5, if_pos e])
  · rw [if_neg (fun q => e (e4.mp q))]
    exact key (nI p) (by rw [h5, if_neg e])
end PMX
