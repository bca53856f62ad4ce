/-! step: the pieces. -/
section PMT
variable {P : Nat → Nat} {C R C' : wk_Sg} {x y : Int32}
theorem wk_up_comm (sg : wk_Sg) {κ κ' : wk_K3} (k k' : Nat) (x x' : Int32) (h : κ ≠ κ') : wk_up (wk_up sg κ k x) κ' k' x' = wk_up (wk_up sg κ' k' x') κ k x := by
  funext j z
  simp only [wk_up_at]
  by_cases h1 : j = κ
  · subst h1
    simp [h]
  · simp [h1]
theorem wk_up_id (sg : wk_Sg) (κ : wk_K3) (k : Nat) : wk_up sg κ k (sg κ k) = sg := by
  funext j z
  rw [wk_up_at]
  by_cases h : j = κ ∧ z = k
  · rw [if_pos h, h.1, h.2]
  · rw [if_neg h]
theorem pn_and3 (x : Int32) : ∃ k, k < 4 ∧ x &&& 3 = nI k := by
  refine ⟨(x.toBitVec &&& 3#32).toNat, ?_, ?_⟩
  · rw [BitVec.toNat_and]
    have h := Nat.and_le_right (n := x.toBitVec.toNat) (m := (3#32).toNat)
    have h3 : (3#32).toNat = 3 := by decide
    rw [h3] at h ⊢
    omega
  · apply Int32.toBitVec_inj.mp
    rw [Int32.toBitVec_and]
    show _ = BitVec.ofNat 32 _
    rw [BitVec.ofNat_toNat, BitVec.setWidth_eq]
    rfl
theorem pm_D.wd (hP : pm_P P) (h : pm_D P C R) {i j p : Nat} (hi : i < P 0) (hj : j < P 1) (hp : p < P 2) (hs : ¬ C (8, i, j) 1 = 0) (hx : x = y) : pm_D P (wk_up C (9, i, j) p x) (wk_up R (31, 0, 0) (4 * (8 * i + j) + p) y) := by
  subst hx
  obtain ⟨h0, ⟨h1a, h1b⟩, h2, h3, h4, h5, h6, h7, h8, h9, h10⟩ := h
  refine ⟨by simpa [wk_up_at] using h0, ⟨by simpa [wk_up_at] using h1a, fun i hi => by simpa [wk_up_at] using h1b i hi⟩, by simpa [pm_c2, wk_up_at] using h2, fun b hb => by simpa [wk_up_at] using h3 b hb, fun i p hi hp => by simpa [wk_up_at] using h4 i p hi hp, fun i k hi hk => by simpa [wk_up_at] using h5 i k hi hk, fun i hi => by simpa [wk_up_at] using h6 i hi, fun i' j' hi' hj' => ?_, by simpa [pm_bus, wk_up_at] using h8, fun k hk => by simpa [wk_up_at] using h9 k hk, fun k hk => by simpa [wk_up_at] using h10 k hk⟩
  unfold pm_P at hP
  obtain ⟨g1, g2, g3⟩ := h7 i' j' hi' hj'
  refine ⟨by simpa [wk_up_at] using g1, by simpa [wk_up_at] using g2, fun k hk => ?_⟩
  obtain ⟨g4, g5⟩ := g3 k hk
  rw [wk_up_ne _ _ _ (show ((8, i', j') : wk_K3) ≠ (9, i, j) by simp), wk_up_at, wk_up_at]
  by_cases e : i' = i ∧ j' = j ∧ k = p
  · obtain ⟨rfl, rfl, rfl⟩ := e
    simp [hs]
  · rw [if_neg (by simp; omega), if_neg (by simp; omega)]
    exact ⟨g4, g5⟩
theorem pm_D.s4 (hP : pm_P P) (h : pm_D P C R) {i j : Nat} (hi : i < P 0) (hj : j < P 1) (hs : ¬ C (8, i, j) 1 = 0) (hx : x = y) (hx0 : ¬ x = 0) : pm_D P (wk_up C (8, i, j) 1 x) (wk_up R (29, 0, 0) (8 * i + j) y) := by
  subst hx
  obtain ⟨h0, ⟨h1a, h1b⟩, h2, h3, h4, h5, h6, h7, h8, h9, h10⟩ := h
  refine ⟨by simpa [wk_up_at] using h0, ⟨by simpa [wk_up_at] using h1a, fun i hi => by simpa [wk_up_at] using h1b i hi⟩, by simpa [pm_c2, wk_up_at] using h2, fun b hb => by simpa [wk_up_at] using h3 b hb, fun i p hi hp => by simpa [wk_up_at] using h4 i p hi hp, fun i k hi hk => by simpa [wk_up_at] using h5 i k hi hk, fun i hi => by simpa [wk_up_at] using h6 i hi, fun i' j' hi' hj' => ?_, by simpa [pm_bus, wk_up_at] using h8, fun k hk => by simpa [wk_up_at] using h9 k hk, fun k hk => by simpa [wk_up_at] using h10 k hk⟩
  unfold pm_P at hP
  obtain ⟨g1, g2, g3⟩ := h7 i' j' hi' hj'
  by_cases e : i' = i ∧ j' = j
  · obtain ⟨rfl, rfl⟩ := e
    refine ⟨by simp [wk_up_at], by simpa [wk_up_at] using g2, fun k hk => ?_⟩
    obtain ⟨g4, g5⟩ := g3 k hk
    simp [wk_up_at, hx0, g5 hs]
  · have n1 : ¬ 8 * i' + j' = 8 * i + j := by omega
    have n2 : ¬ ((8, i', j') : wk_K3) = (8, i, j) := by simp; omega
    refine ⟨by simpa [wk_up_at, n1, n2] using g1, by simpa [wk_up_at, n1, n2] using g2, fun k hk => ?_⟩
    rw [wk_up_ne _ _ _ n2, wk_up_ne _ _ _ (show ((9, i', j') : wk_K3) ≠ (8, i, j) by simp), wk_up_ne _ _ _ (show ((31, 0, 0) : wk_K3) ≠ (29, 0, 0) by simp)]
    exact g3 k hk
/-- the invariant when a slot with the line to itself becomes MODIFIED -/
theorem pm_I.s4 (hP : pm_P P) (h : pm_I P C) {i n : Nat} (hi : i < P 0) (hn : n < P 5) (hr : C (4, i, 0) 6 = 0) (hh : pm_hold P C i n) (hs : C (8, i, n % P 1) 1 = 2 ∨ C (8, i, n % P 1) 1 = 4) : pm_I P (wk_up C (8, i, n % P 1) 1 4) := by
  have hm := pm_mod hP n
  obtain ⟨i1, i2, i3, i4, i5⟩ := h
  have hho : ∀ i' n', i' < P 0 → (pm_hold P (wk_up C (8, i, n % P 1) 1 4) i' n' ↔ pm_hold P C i' n') := by
    intro i' n' hi'
    unfold pm_hold
    by_cases e : i' = i ∧ n' % P 1 = n % P 1
    · obtain ⟨rfl, e⟩ := e
      rw [e]
      simp [wk_up_at, hh.1]
    · have n2 : ¬ ((8, i', n' % P 1) : wk_K3) = (8, i, n % P 1) := by simp; omega
      rw [wk_up_ne _ _ _ n2]
  have hst : ∀ i' n', n' < P 5 → i' < P 0 → pm_hold P C i' n' → (¬ i' = i ∨ ¬ n' = n) → wk_up C (8, i, n % P 1) 1 4 (8, i', n' % P 1) 1 = C (8, i', n' % P 1) 1 := by
    intro i' n' hn' hi' q hne
    have n2 : ¬ ((8, i', n' % P 1) : wk_K3) = (8, i, n % P 1) := by
      intro e
      simp only [Prod.mk.injEq, true_and] at e
      obtain ⟨rfl, e⟩ := e
      have e2 : nI n' = nI n := by rw [← q.2, e]; exact hh.2
      unfold pm_P at hP
      rw [pn_eq (by omega) (by omega)] at e2
      omega
    rw [wk_up_ne _ _ _ n2]
  refine ⟨fun i' hi' => by simpa [wk_up_at] using i1 i' hi', fun i' hi' => ?_, fun i' j' hi' hj' => ?_, ?_, fun n' a b hn' ha hb hne q1 q2 => ?_⟩
  · rcases i2 i' hi' with g | ⟨g1, g2, n', g3, g4, g5⟩
    · exact Or.inl (by simpa [wk_up_at] using g)
    · refine Or.inr ⟨by simpa [wk_up_at] using g1, by simpa [wk_up_at] using g2, n', g3, by simpa [wk_up_at] using g4, fun e q => g5 (by simpa [wk_up_at] using e) ((hho i' n' hi').mp q)⟩
  · by_cases e : i' = i ∧ j' = n % P 1
    · obtain ⟨rfl, rfl⟩ := e
      refine Or.inr ⟨by simp [wk_up_at], n, hn, by simpa [wk_up_at] using hh.2⟩
    · have n2 : ¬ ((8, i', j') : wk_K3) = (8, i, n % P 1) := by simp; omega
      rw [wk_up_ne _ _ _ n2]
      exact i3 i' j' hi' hj'
  · rcases i4 with g | ⟨g1, g2, c, n', hc, hn', g3, g4, g5, g6, g7, g8⟩
    · exact Or.inl (by simpa [wk_up_at] using g)
    · refine Or.inr ⟨by simpa [wk_up_at] using g1, by simpa [wk_up_at] using g2, c, n', hc, hn', by simpa [wk_up_at] using g3, by simpa [wk_up_at] using g4, by simpa [wk_up_at] using g5, by simpa [wk_up_at] using g6, fun e q => g7 (by simpa [wk_up_at] using e) ((hho c n' hc).mp q), fun e a ha hne q => ?_⟩
      have e' : C (10, 0, 0) 5 = 3 := by simpa [wk_up_at] using e
      have q' := (hho a n' ha).mp q
      obtain ⟨k1, k2, k3, k4⟩ := g8 e' a ha hne q'
      have hne2 : ¬ a = i ∨ ¬ n' = n := by
        by_cases z : a = i
        · by_cases z2 : n' = n
          · subst z; subst z2
            rcases hs with s | s
            · exact absurd s k3
            · exact absurd s k4
          · exact Or.inr z2
        · exact Or.inl z
      rw [hst a n' hn' ha q' hne2]
      exact ⟨by simpa [wk_up_at] using k1, by simpa [wk_up_at] using k2, k3, k4⟩
  · have q1' := (hho a n' ha).mp q1
    have q2' := (hho b n' hb).mp q2
    have base := i5 n' a b hn' ha hb hne q1' q2'
    have base' := i5 n' b a hn' hb ha (fun z => hne z.symm) q2' q1'
    have na : ¬ a = i ∨ ¬ n' = n := by
      by_cases z : a = i
      · by_cases z2 : n' = n
        · subst z; subst z2
          rcases hs with s | s
          · exact absurd s base.1
          · exact absurd s base.2.1
        · exact Or.inr z2
      · exact Or.inl z
    have nb : ¬ b = i ∨ ¬ n' = n := by
      by_cases z : b = i
      · by_cases z2 : n' = n
        · subst z; subst z2
          rcases hs with s | s
          · exact absurd s base'.1
          · exact absurd s base'.2.1
        · exact Or.inr z2
      · exact Or.inl z
    rw [hst a n' hn' ha q1' na, hst b n' hn' hb q2' nb]
    exact base
/-- a cpu that runs has no request and is not the asker -/
theorem pm_run (h : pm_I P C) {i : Nat} (hi : i < P 0) (hr : C (4, i, 0) 6 = 0) : C (4, i, 0) 8 = 0 ∧ (¬ C (10, 0, 0) 5 = 0 → ∀ c, c < P 0 → C (4, c, 0) 6 = 1 → ¬ c = i) := by
  refine ⟨?_, fun _ c _ hc e => ?_⟩
  · rcases h.2.1 i hi with g | g
    · exact g
    · rw [g.2.1] at hr
      exact absurd hr (by decide)
  · subst e
    rw [hr] at hc
    exact absurd hc (by decide)
theorem pm_I.ask (h : pm_I P C) {i n : Nat} {k : Int32} (hi : i < P 0) (hn : n < P 5) (hr : C (4, i, 0) 6 = 0) (hk : k = 1 ∨ k = 2) (hh : k = 1 → ¬ pm_hold P C i n) : pm_I P (wk_up (wk_up (wk_up C (4, i, 0) 6 1) (4, i, 0) 8 k) (4, i, 0) 9 (nI n)) := by
  obtain ⟨i1, i2, i3, i4, i5⟩ := h
  refine ⟨fun i' hi' => ?_, fun i' hi' => ?_, fun i' j' hi' hj' => by simpa [wk_up_at] using i3 i' j' hi' hj', ?_, fun n' a b hn' ha hb hne q1 q2 => ?_⟩
  · by_cases e : i' = i
    · subst e
      exact Or.inr (Or.inl (by simp [wk_up_at]))
    · simpa [wk_up_at, e] using i1 i' hi'
  · by_cases e : i' = i
    · subst e
      refine Or.inr ⟨by simpa [wk_up_at] using hk, by simp [wk_up_at], n, hn, by simp [wk_up_at], fun e q => hh (by simpa [wk_up_at] using e) (by simpa [pm_hold, wk_up_at] using q)⟩
    · simpa [pm_hold, wk_up_at, e] using i2 i' hi'
  · rcases i4 with g | ⟨g1, g2, c, n', hc, hn', g3, g4, g5, g6, g7, g8⟩
    · exact Or.inl (by simpa [wk_up_at] using g)
    · have hci : ¬ c = i := fun e => by
        subst e
        rw [hr] at g5
        exact absurd g5 (by decide)
      refine Or.inr ⟨by simpa [wk_up_at] using g1, by simpa [wk_up_at] using g2, c, n', hc, hn', by simpa [wk_up_at] using g3, by simpa [wk_up_at] using g4, by simpa [wk_up_at, hci] using g5, by simpa [wk_up_at, hci] using g6, fun e q => g7 (by simpa [wk_up_at] using e) (by simpa [pm_hold, wk_up_at] using q), fun e a ha hne q => ?_⟩
      simpa [wk_up_at] using g8 (by simpa [wk_up_at] using e) a ha hne (by simpa [pm_hold, wk_up_at] using q)
  · simpa [wk_up_at] using i5 n' a b hn' ha hb hne (by simpa [pm_hold, wk_up_at] using q1) (by simpa [pm_hold, wk_up_at] using q2)
theorem pm_I.stt (h : pm_I P C) {i : Nat} {k : Int32} (hi : i < P 0) (hr : C (4, i, 0) 6 = 0) (hk : k = 0 ∨ k = 1 ∨ k = 2 ∨ k = 3) : pm_I P (wk_up C (4, i, 0) 6 k) := by
  have hq := (pm_run h hi hr).1
  obtain ⟨i1, i2, i3, i4, i5⟩ := h
  refine ⟨fun i' hi' => ?_, fun i' hi' => ?_, fun i' j' hi' hj' => by simpa [wk_up_at] using i3 i' j' hi' hj', ?_, fun n' a b hn' ha hb hne q1 q2 => ?_⟩
  · by_cases e : i' = i
    · subst e
      simpa [wk_up_at] using hk
    · simpa [wk_up_at, e] using i1 i' hi'
  · by_cases e : i' = i
    · subst e
      exact Or.inl (by simpa [wk_up_at] using hq)
    · simpa [pm_hold, wk_up_at, e] using i2 i' hi'
  · rcases i4 with g | ⟨g1, g2, c, n', hc, hn', g3, g4, g5, g6, g7, g8⟩
    · exact Or.inl (by simpa [wk_up_at] using g)
    · have hci : ¬ c = i := fun e => by
        subst e
        rw [hr] at g5
        exact absurd g5 (by decide)
      refine Or.inr ⟨by simpa [wk_up_at] using g1, by simpa [wk_up_at] using g2, c, n', hc, hn', by simpa [wk_up_at] using g3, by simpa [wk_up_at] using g4, by simpa [wk_up_at, hci] using g5, by simpa [wk_up_at, hci] using g6, fun e q => g7 (by simpa [wk_up_at] using e) (by simpa [pm_hold, wk_up_at] using q), fun e a ha hne q => ?_⟩
      simpa [wk_up_at] using g8 (by simpa [wk_up_at] using e) a ha hne (by simpa [pm_hold, wk_up_at] using q)
  · simpa [wk_up_at] using i5 n' a b hn' ha hb hne (by simpa [pm_hold, wk_up_at] using q1) (by simpa [pm_hold, wk_up_at] using q2)
end PMT
