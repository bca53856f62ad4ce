/-! Paired updates keep the relation; what the invariant reads. -/
section PMH
variable {P : Nat → Nat} {C R C' R' : wk_Sg} {x y : Int32}
theorem pn_cases (a : Int32) (n : Nat) (hn : n < 4000) : (a < 0 ∨ nI n ≤ a) ∨ ∃ j, j < n ∧ a = nI j := by
  by_cases h1 : a < 0
  · exact Or.inl (Or.inl h1)
  · by_cases h2 : nI n ≤ a
    · exact Or.inl (Or.inr h2)
    · exact Or.inr (pn_of hn h1 h2)
theorem pn_nneg {n : Nat} (h : n < 4000) : ¬ nI n < 0 := nI_pos (by omega)
theorem pn_ne0 {n : Nat} (h0 : 0 < n) (h : n < 4000) : ¬ nI n = 0 := nI_ne0 h0 (by omega)
theorem pn_0 : (0 : Int32) = nI 0 := by decide
theorem pn_m4 (i : Nat) : (4 : Int32) * nI i = nI (4 * i) := by rw [← pn_mul]; rfl
theorem pn_m8 (i : Nat) : (8 : Int32) * nI i = nI (8 * i) := by rw [← pn_mul]; rfl
theorem pn_m32 (i : Nat) : (32 : Int32) * nI i = nI (32 * i) := by rw [← pn_mul]; rfl
theorem pn_neg1 {n : Nat} (h : n < 4000) : ¬ (-1 : Int32) = nI n := by
  intro e
  have h1 := congrArg Int32.toInt e
  rw [nI_toInt (by omega)] at h1
  have h2 : (-1 : Int32).toInt = -1 := by decide
  rw [h2] at h1
  omega
theorem pn_neg1' {n : Nat} (h : n < 4000) : ¬ nI n = (-1 : Int32) := fun e => pn_neg1 h e.symm
theorem pm_wout {sg : wk_Sg} {a : Int32} {n : Nat} (h : a < 0 ∨ nI n ≤ a) : mr_X4_within P sg a (nI n) = 0 := by
  unfold mr_X4_within
  by_cases h1 : a < 0
  · rw [if_pos h1]
  · rw [if_neg h1, if_pos (h.resolve_left h1)]
theorem pm_win {sg : wk_Sg} {j n : Nat} (h : j < n) (hn : n < 4000) : mr_X4_within P sg (nI j) (nI n) = 1 := by
  unfold mr_X4_within
  rw [if_neg (pn_nneg (by omega)), if_neg (by rw [pn_le (by omega) (by omega)]; omega)]
theorem pm_cout {sg : wk_Sg} {a : Int32} {n : Nat} (hc : sg (20, 0, 0) 0 = nI n) (h : a < 0 ∨ nI n ≤ a) : mr_X5_isCpu P sg a = 0 := by
  unfold mr_X5_isCpu
  rw [hc]
  by_cases h1 : a < 0
  · rw [if_pos h1]
  · rw [if_neg h1, if_pos (h.resolve_left h1)]
theorem pm_cin {sg : wk_Sg} {j n : Nat} (hc : sg (20, 0, 0) 0 = nI n) (h : j < n) (hn : n < 4000) : mr_X5_isCpu P sg (nI j) = 1 := by
  unfold mr_X5_isCpu
  rw [hc, if_neg (pn_nneg (by omega)), if_neg (by rw [pn_le (by omega) (by omega)]; omega)]
theorem pm_aout {sg : wk_Sg} {a : Int32} {n : Nat} (hc : sg (20, 0, 0) 3 = nI n) (h : a < 0 ∨ nI n ≤ a) : mr_X5_isAddress P sg a = 0 := by
  unfold mr_X5_isAddress
  rw [hc]
  by_cases h1 : a < 0
  · rw [if_pos h1]
  · rw [if_neg h1, if_pos (h.resolve_left h1)]
theorem pm_ain {sg : wk_Sg} {j n : Nat} (hc : sg (20, 0, 0) 3 = nI n) (h : j < n) (hn : n < 4000) : mr_X5_isAddress P sg (nI j) = 1 := by
  unfold mr_X5_isAddress
  rw [hc, if_neg (pn_nneg (by omega)), if_neg (by rw [pn_le (by omega) (by omega)]; omega)]
/-- the relation, if both sides keep what it reads -/
theorem pm_D.st (h : pm_D P C R) (hx : x = y) : pm_D P (wk_up C (0, 0, 0) 3 x) (wk_up R (20, 0, 0) 7 y) := by
  subst hx
  obtain ⟨h0, ⟨h1a, h1b⟩, h2, h3, h4, h5, h6, h7, h8, h9, h10⟩ := h
  refine ⟨by simp [wk_up_at], ⟨by simpa [wk_up_at] using h1a, fun i hi => by simpa [wk_up_at] using h1b i hi⟩, by simpa [pm_c2, wk_up_at] using h2, fun a ha => by simpa [wk_up_at] using h3 a ha, fun i p hi hp => by simpa [wk_up_at] using h4 i p hi hp, fun i k hi hk => by simpa [wk_up_at] using h5 i k hi hk, fun i hi => by simpa [wk_up_at] using h6 i hi, fun i j hi hj => by simpa [wk_up_at] using h7 i j hi hj, by simpa [pm_bus, wk_up_at] using h8, fun k hk => by simpa [wk_up_at] using h9 k hk, fun k hk => by simpa [wk_up_at] using h10 k hk⟩
theorem pm_D.me (h : pm_D P C R) {a : Nat} (hx : x = y) : pm_D P (wk_up C (2, 0, 0) a x) (wk_up R (21, 0, 0) a y) := by
  subst hx
  obtain ⟨h0, ⟨h1a, h1b⟩, h2, h3, h4, h5, h6, h7, h8, h9, h10⟩ := h
  refine ⟨by simpa [wk_up_at] using h0, ⟨by simpa [wk_up_at] using h1a, fun i hi => by simpa [wk_up_at] using h1b i hi⟩, by simpa [pm_c2, wk_up_at] using h2, fun b hb => ?_, fun i p hi hp => by simpa [wk_up_at] using h4 i p hi hp, fun i k hi hk => by simpa [wk_up_at] using h5 i k hi hk, fun i hi => by simpa [wk_up_at] using h6 i hi, fun i j hi hj => by simpa [wk_up_at] using h7 i j hi hj, by simpa [pm_bus, wk_up_at] using h8, fun k hk => by simpa [wk_up_at] using h9 k hk, fun k hk => by simpa [wk_up_at] using h10 k hk⟩
  simp only [wk_up_at, true_and, h3 b hb]
theorem pm_D.co (hP : pm_P P) (h : pm_D P C R) {i p : Nat} (hi : i < P 0) (hp : p < P 4) (hx : x = y) : pm_D P (wk_up C (5, i, 0) p x) (wk_up R (22, 0, 0) (32 * i + p) y) := by
  subst hx
  obtain ⟨h0, ⟨h1a, h1b⟩, h2, h3, h4, h5, h6, h7, h8, h9, h10⟩ := h
  refine ⟨by simpa [wk_up_at] using h0, ⟨by simpa [wk_up_at] using h1a, fun i hi => by simpa [wk_up_at] using h1b i hi⟩, by simpa [pm_c2, wk_up_at] using h2, fun b hb => by simpa [wk_up_at] using h3 b hb, fun i' p' hi' hp' => ?_, fun i k hi hk => by simpa [wk_up_at] using h5 i k hi hk, fun i hi => by simpa [wk_up_at] using h6 i hi, fun i j hi hj => by simpa [wk_up_at] using h7 i j hi hj, by simpa [pm_bus, wk_up_at] using h8, fun k hk => by simpa [wk_up_at] using h9 k hk, fun k hk => by simpa [wk_up_at] using h10 k hk⟩
  unfold pm_P at hP
  rw [wk_up_at, wk_up_at, h4 i' p' hi' hp']
  by_cases e : i' = i ∧ p' = p
  · obtain ⟨rfl, rfl⟩ := e
    simp
  · rw [if_neg (by simp; omega), if_neg (by simp; omega)]
theorem pm_D.re (hP : pm_P P) (h : pm_D P C R) {i p : Nat} (hi : i < P 0) (hp : p < 4) (hx : x = y) : pm_D P (wk_up C (6, i, 0) p x) (wk_up R (23, 0, 0) (4 * i + p) y) := by
  subst hx
  obtain ⟨h0, ⟨h1a, h1b⟩, h2, h3, h4, h5, h6, h7, h8, h9, h10⟩ := h
  refine ⟨by simpa [wk_up_at] using h0, ⟨by simpa [wk_up_at] using h1a, fun i hi => by simpa [wk_up_at] using h1b i hi⟩, by simpa [pm_c2, wk_up_at] using h2, fun b hb => by simpa [wk_up_at] using h3 b hb, fun i p hi hp => by simpa [wk_up_at] using h4 i p hi hp, fun i' p' hi' hp' => ?_, fun i hi => by simpa [wk_up_at] using h6 i hi, fun i j hi hj => by simpa [wk_up_at] using h7 i j hi hj, by simpa [pm_bus, wk_up_at] using h8, fun k hk => by simpa [wk_up_at] using h9 k hk, fun k hk => by simpa [wk_up_at] using h10 k hk⟩
  rw [wk_up_at, wk_up_at, h5 i' p' hi' hp']
  by_cases e : i' = i ∧ p' = p
  · obtain ⟨rfl, rfl⟩ := e
    simp
  · rw [if_neg (by simp; omega), if_neg (by simp; omega)]
theorem pm_D.cp (h : pm_D P C R) {i k t : Nat} (hkt : (k = 5 ∧ t = 24) ∨ (k = 6 ∧ t = 25) ∨ (k = 7 ∧ t = 26) ∨ (k = 8 ∧ t = 27) ∨ (k = 9 ∧ t = 28)) (hx : x = y) : pm_D P (wk_up C (4, i, 0) k x) (wk_up R (t, 0, 0) i y) := by
  subst hx
  obtain ⟨h0, ⟨h1a, h1b⟩, h2, h3, h4, h5, h6, h7, h8, h9, h10⟩ := h
  rcases hkt with ⟨rfl, rfl⟩ | ⟨rfl, rfl⟩ | ⟨rfl, rfl⟩ | ⟨rfl, rfl⟩ | ⟨rfl, rfl⟩ <;>
  · refine ⟨by simpa [wk_up_at] using h0, ⟨by simpa [wk_up_at] using h1a, fun i hi => by simpa [wk_up_at] using h1b i hi⟩, by simpa [pm_c2, wk_up_at] using h2, fun b hb => by simpa [wk_up_at] using h3 b hb, fun i p hi hp => by simpa [wk_up_at] using h4 i p hi hp, fun i k hi hk => by simpa [wk_up_at] using h5 i k hi hk, fun i' hi' => ?_, fun i j hi hj => by simpa [wk_up_at] using h7 i j hi hj, by simpa [pm_bus, wk_up_at] using h8, fun k hk => by simpa [wk_up_at] using h9 k hk, fun k hk => by simpa [wk_up_at] using h10 k hk⟩
    obtain ⟨g1, g2, g3, g4, g5⟩ := h6 i' hi'
    simp [wk_up_at, g1, g2, g3, g4, g5]
theorem pm_D.bu (h : pm_D P C R) {k t : Nat} (hkt : (k = 5 ∧ t = 17) ∨ (k = 6 ∧ t = 18) ∨ (k = 7 ∧ t = 19) ∨ (k = 8 ∧ t = 20) ∨ (k = 4 ∧ t = 21)) (hx : x = y) : pm_D P (wk_up C (10, 0, 0) k x) (wk_up R (20, 0, 0) t y) := by
  subst hx
  obtain ⟨h0, ⟨h1a, h1b⟩, ⟨c0, c1, c2, c3, c4⟩, h3, h4, h5, h6, h7, ⟨b1, b2, b3, b4, b5⟩, h9, h10⟩ := h
  rcases hkt with ⟨rfl, rfl⟩ | ⟨rfl, rfl⟩ | ⟨rfl, rfl⟩ | ⟨rfl, rfl⟩ | ⟨rfl, rfl⟩ <;>
  · refine ⟨by simpa [wk_up_at] using h0, ⟨by simpa [wk_up_at] using h1a, fun i hi => by simpa [wk_up_at] using h1b i hi⟩, by simp [pm_c2, wk_up_at, c0, c1, c2, c3, c4], fun b hb => by simpa [wk_up_at] using h3 b hb, fun i p hi hp => by simpa [wk_up_at] using h4 i p hi hp, fun i k hi hk => by simpa [wk_up_at] using h5 i k hi hk, fun i hi => by simpa [wk_up_at] using h6 i hi, fun i j hi hj => by simpa [wk_up_at] using h7 i j hi hj, by simp [pm_bus, wk_up_at, b1, b2, b3, b4, b5], fun k hk => by simpa [wk_up_at] using h9 k hk, fun k hk => by simpa [wk_up_at] using h10 k hk⟩
theorem pm_D.do (h : pm_D P C R) {k : Nat} (hx : x = y) : pm_D P (wk_up C (11, 0, 0) k x) (wk_up R (33, 0, 0) (k + 1) y) := by
  subst hx
  obtain ⟨h0, ⟨h1a, h1b⟩, h2, h3, h4, h5, h6, h7, h8, h9, h10⟩ := h
  refine ⟨by simpa [wk_up_at] using h0, ⟨by simpa [wk_up_at] using h1a, fun i hi => by simpa [wk_up_at] using h1b i hi⟩, by simpa [pm_c2, wk_up_at] using h2, fun b hb => by simpa [wk_up_at] using h3 b hb, fun i p hi hp => by simpa [wk_up_at] using h4 i p hi hp, fun i k hi hk => by simpa [wk_up_at] using h5 i k hi hk, fun i hi => by simpa [wk_up_at] using h6 i hi, fun i j hi hj => by simpa [wk_up_at] using h7 i j hi hj, by simpa [pm_bus, wk_up_at] using h8, fun k hk => by simpa [wk_up_at] using h9 k hk, fun k' hk' => ?_⟩
  simp [wk_up_at, h10 k' hk']
/-- the invariant reads these cells alone -/
theorem pm_I.cg (h : pm_I P C) (h4 : ∀ i, i < P 0 → C' (4, i, 0) 6 = C (4, i, 0) 6 ∧ C' (4, i, 0) 8 = C (4, i, 0) 8 ∧ C' (4, i, 0) 9 = C (4, i, 0) 9) (h8 : ∀ i j, i < P 0 → j < P 1 → C' (8, i, j) 1 = C (8, i, j) 1 ∧ C' (8, i, j) 2 = C (8, i, j) 2) (h10 : C' (10, 0, 0) 4 = C (10, 0, 0) 4 ∧ C' (10, 0, 0) 5 = C (10, 0, 0) 5 ∧ C' (10, 0, 0) 6 = C (10, 0, 0) 6 ∧ C' (10, 0, 0) 7 = C (10, 0, 0) 7 ∧ C' (10, 0, 0) 8 = C (10, 0, 0) 8) (hP : pm_P P) : pm_I P C' := by
  have hp1 : 0 < P 1 := by unfold pm_P at hP; omega
  have hh : ∀ i n, i < P 0 → (pm_hold P C' i n ↔ pm_hold P C i n) := fun i n hi => by
    unfold pm_hold
    rw [(h8 i (n % P 1) hi (Nat.mod_lt _ hp1)).1, (h8 i (n % P 1) hi (Nat.mod_lt _ hp1)).2]
  obtain ⟨i1, i2, i3, i4, i5⟩ := h
  refine ⟨fun i hi => ?_, fun i hi => ?_, fun i j hi hj => ?_, ?_, fun n i i' hn hi hi' hne a1 a2 => ?_⟩
  · rw [(h4 i hi).1]; exact i1 i hi
  · rw [(h4 i hi).1, (h4 i hi).2.1, (h4 i hi).2.2]
    rcases i2 i hi with g | ⟨g1, g2, n, g3, g4, g5⟩
    · exact Or.inl g
    · exact Or.inr ⟨g1, g2, n, g3, g4, fun e q => g5 e ((hh i n hi).mp q)⟩
  · rw [(h8 i j hi hj).1, (h8 i j hi hj).2]; exact i3 i j hi hj
  · unfold pm_i4
    rw [h10.1, h10.2.1, h10.2.2.1, h10.2.2.2.1, h10.2.2.2.2]
    rcases i4 with g | ⟨g1, g2, c, n, hc, hn, g3, g4, g5, g6, g7, g8⟩
    · exact Or.inl g
    · refine Or.inr ⟨g1, g2, c, n, hc, hn, g3, g4, by rw [(h4 c hc).1]; exact g5, by rw [(h4 c hc).2.1]; exact g6, fun e q => g7 e ((hh c n hc).mp q), fun e i hi hne q => ?_⟩
      rw [(h8 i (n % P 1) hi (Nat.mod_lt _ hp1)).1]
      exact g8 e i hi hne ((hh i n hi).mp q)
  · rw [(h8 i (n % P 1) hi (Nat.mod_lt _ hp1)).1, (h8 i' (n % P 1) hi' (Nat.mod_lt _ hp1)).1]
    exact i5 n i i' hn hi hi' hne ((hh i n hi).mp a1) ((hh i' n hi').mp a2)
end PMH
