/-! peek: at most one cpu has a line newer than memory. -/
section PMK
variable {P : Nat → Nat} {C R : wk_Sg}
theorem pm_idx (hP : pm_P P) {sg : wk_Sg} {i n : Nat} (hn : n < 4000) : mr_X1_indexFor P sg i (nI n) = nI (n % P 1) := by
  unfold pm_P at hP
  unfold mr_X1_indexFor
  exact pn_rem hn (by omega) (by omega)
theorem pm_slotFor (hP : pm_P P) {sg : wk_Sg} {i n : Nat} (hn : n < 4000) : mg_X1_slotFor P sg i (nI n) := by
  unfold mg_X1_slotFor mg_X1_indexFor
  rw [pm_idx hP hn]
  unfold pm_P at hP
  exact ⟨⟨pn_ne0 (by omega) (by omega), trivial⟩, pn_in (Nat.mod_lt _ (by omega)) (by omega), trivial⟩
theorem pm_mod (hP : pm_P P) (n : Nat) : n % P 1 < P 1 ∧ n % P 1 < 4000 := by
  unfold pm_P at hP
  have := Nat.mod_lt n (show 0 < P 1 by omega)
  omega
theorem pm_holds {i n : Nat} : (mr_X3_holds P C i (n % P 1) (nI n) = 1 ∧ pm_hold P C i n) ∨ (mr_X3_holds P C i (n % P 1) (nI n) = 0 ∧ ¬ pm_hold P C i n) := by
  unfold mr_X3_holds pm_hold
  by_cases h1 : C (8, i, n % P 1) 1 = 0
  · exact Or.inr ⟨by rw [if_pos h1], fun q => q.1 h1⟩
  · by_cases h2 : C (8, i, n % P 1) 2 = nI n
    · exact Or.inl ⟨by rw [if_neg h1, if_pos h2], h1, h2⟩
    · exact Or.inr ⟨by rw [if_neg h1, if_neg h2], fun q => h2 q.2⟩
theorem pr_slotOf (hP : pm_P P) (h : R (20, 0, 0) 1 = nI (P 1)) {i n : Nat} (hn : n < 4000) : mr_X5_slotOf P R (nI i) (nI n) = nI (8 * i + n % P 1) := by
  unfold pm_P at hP
  unfold mr_X5_slotOf
  rw [h, pn_rem hn (by omega) (by omega), pn_m8, nI_add]
theorem pr_slotOfg (hP : pm_P P) (h : R (20, 0, 0) 1 = nI (P 1)) (a b : Int32) : mg_X5_slotOf P R a b := by
  unfold pm_P at hP
  unfold mg_X5_slotOf
  rw [h]
  exact ⟨pn_ne0 (by omega) (by omega), trivial⟩
theorem pr_stateOfg (hP : pm_P P) (h : R (20, 0, 0) 1 = nI (P 1)) {i n : Nat} (hi : i < P 0) (hn : n < 4000) : mg_X5_stateOf P R (nI i) (nI n) := by
  unfold mg_X5_stateOf
  rw [pr_slotOf hP h hn]
  have hm := pm_mod hP n
  have hg := pr_slotOfg hP h (nI i) (nI n)
  unfold pm_P at hP
  have hv : vp_in (nI (8 * i + n % P 1)) 32 := pn_in (by omega) (by omega)
  exact ⟨hg, hv, fun _ => ⟨hv, trivial⟩, fun _ => trivial⟩
/-- stateOf is the component's state where it holds the line, else 0 -/
theorem pr_stateOf (hP : pm_P P) (hD : pm_D P C R) (hI : pm_I P C) {i n : Nat} (hi : i < P 0) (hn : n < P 5) : (pm_hold P C i n ∧ mr_X5_stateOf P R (nI i) (nI n) = C (8, i, n % P 1) 1 ∧ ¬ mr_X5_stateOf P R (nI i) (nI n) = 0) ∨ (¬ pm_hold P C i n ∧ mr_X5_stateOf P R (nI i) (nI n) = 0) := by
  have hm := pm_mod hP n
  have hn4 : n < 4000 := by unfold pm_P at hP; omega
  obtain ⟨g1, g2, -⟩ := hD.2.2.2.2.2.2.2.1 i (n % P 1) hi hm.1
  have hi4 : 8 * i + n % P 1 < 4000 := by unfold pm_P at hP; omega
  unfold mr_X5_stateOf
  rw [pr_slotOf hP hD.2.2.1.2.1 hn4, pn_clamp hi4, ← g1, ← g2]
  by_cases h2 : C (8, i, n % P 1) 2 = nI n
  · rw [if_pos h2]
    rcases hI.2.2.1 i (n % P 1) hi hm.1 with q | q
    · rw [q.2] at h2
      exact absurd h2 (pn_neg1 hn4)
    · exact Or.inl ⟨⟨q.1, h2⟩, rfl, q.1⟩
  · rw [if_neg h2]
    exact Or.inr ⟨fun q => h2 q.2, rfl⟩
def pm_own (P : Nat → Nat) (C : wk_Sg) (i n : Nat) : Prop := pm_hold P C i n ∧ pm_new C i (n % P 1)
theorem pm_own1 (hI : pm_I P C) {n i i' : Nat} (hn : n < P 5) (hi : i < P 0) (hi' : i' < P 0) (h : pm_own P C i n) (h' : pm_own P C i' n) : i = i' := by
  by_cases e : i = i'
  · exact e
  · obtain ⟨q1, q2, q3⟩ := hI.2.2.2.2 n i i' hn hi hi' e h.1 h'.1
    obtain ⟨r1, r2, r3⟩ := hI.2.2.2.2 n i' i hn hi' hi (fun z => e z.symm) h'.1 h.1
    rcases h.2 with s | s
    · rcases h'.2 with s' | s'
      · exact absurd ⟨s, s'⟩ q3
      · exact absurd s' r2
    · exact absurd s q2
theorem pm_pkC (hP : pm_P P) (hD : pm_D P C R) {a : Nat} (ha : a < P 3) : ∀ (f k : Nat), k ≤ P 0 → P 0 - k < f → mg_X4_peek_L24 f P C (nI a) (nI (a / P 2)) (nI k) ∧ ((∃ i, k ≤ i ∧ i < P 0 ∧ pm_own P C i (a / P 2) ∧ mr_X4_peek_L24 f P C (nI a) (nI (a / P 2)) (nI k) = C (9, i, a / P 2 % P 1) (a % P 2)) ∨ ((∀ i, k ≤ i → i < P 0 → ¬ pm_own P C i (a / P 2)) ∧ mr_X4_peek_L24 f P C (nI a) (nI (a / P 2)) (nI k) = C (2, 0, 0) a)) := by
  have hP' := hP
  unfold pm_P at hP
  have hn4 : a / P 2 < 4000 := Nat.lt_of_le_of_lt (Nat.div_le_self _ _) (by omega)
  have hm := pm_mod hP' (a / P 2)
  have hw : C (1, 0, 0) 0 = nI (P 2) := hD.2.1.1
  intro f
  induction f with
  | zero => intro k _ h; omega
  | succ f ih =>
    intro k hk hf
    rw [mg_X4_peek_L24, mr_X4_peek_L24]
    by_cases hkP : k = P 0
    · subst hkP
      have e : nI (P 0) ≤ nI (P 0) := (pn_le (by omega) (by omega)).mpr (Nat.le_refl _)
      rw [if_pos e, pn_clamp (show a < 4000 by omega)]
      exact ⟨⟨fun _ => ⟨pn_in ha (by omega), trivial⟩, fun h => absurd e h⟩, Or.inr ⟨fun i h1 h2 => by omega, rfl⟩⟩
    · have hkP : k < P 0 := by omega
      have e : ¬ nI (P 0) ≤ nI k := by rw [pn_le (by omega) (by omega)]; omega
      obtain ⟨i1, i2⟩ := ih (k + 1) (by omega) (by omega)
      have hsf := pm_slotFor hP' (sg := C) (i := k) hn4
      have hvk : vp_in (nI k) (P 0) := pn_in hkP (by omega)
      have ho : mr_X2_offsetOf P C (nI a) = nI (a % P 2) := by
        unfold mr_X2_offsetOf
        rw [hw]
        exact pn_rem (by omega) (by omega) (by omega)
      have hog : mg_X2_offsetOf P C (nI a) := by
        unfold mg_X2_offsetOf
        rw [hw]
        exact ⟨pn_ne0 (by omega) (by omega), trivial⟩
      have hmo : a % P 2 < P 2 := Nat.mod_lt _ (by omega)
      rw [if_neg e, pn_clamp (show k < 4000 by omega), pm_idx hP' hn4, pn_clamp hm.2, pn_inc, ho, pn_clamp (show a % P 2 < 4000 by omega)]
      have up : ∀ (x : Int32), ¬ pm_own P C k (a / P 2) → ((∃ i, k + 1 ≤ i ∧ i < P 0 ∧ pm_own P C i (a / P 2) ∧ x = C (9, i, a / P 2 % P 1) (a % P 2)) ∨ ((∀ i, k + 1 ≤ i → i < P 0 → ¬ pm_own P C i (a / P 2)) ∧ x = C (2, 0, 0) a)) → ((∃ i, k ≤ i ∧ i < P 0 ∧ pm_own P C i (a / P 2) ∧ x = C (9, i, a / P 2 % P 1) (a % P 2)) ∨ ((∀ i, k ≤ i → i < P 0 → ¬ pm_own P C i (a / P 2)) ∧ x = C (2, 0, 0) a)) := by
        intro x hno q
        rcases q with ⟨i, q1, q2, q3, q4⟩ | ⟨q1, q2⟩
        · exact Or.inl ⟨i, by omega, q2, q3, q4⟩
        · refine Or.inr ⟨fun i h1 h2 => ?_, q2⟩
          by_cases hik : i = k
          · rw [hik]; exact hno
          · exact q1 i (by omega) h2
      rcases pm_holds (P := P) (C := C) (i := k) (n := a / P 2) with g | g
      · rcases pm_dirtyC (P := P) (C := C) (i := k) (j := a / P 2 % P 1) with d | d
        · rw [g.1, d.1, if_neg (by decide), if_neg (by decide)]
          refine ⟨⟨fun h => absurd h e, fun _ => ⟨hvk, hsf, fun h => absurd h (by decide), fun _ => ⟨fun h => absurd h (by decide), fun _ => ⟨hog, pn_in hmo (by omega), trivial⟩⟩⟩⟩, Or.inl ⟨k, Nat.le_refl _, hkP, ⟨g.2, d.2⟩, rfl⟩⟩
        · rw [g.1, d.1, if_neg (by decide), if_pos rfl]
          exact ⟨⟨fun h => absurd h e, fun _ => ⟨hvk, hsf, fun h => absurd h (by decide), fun _ => ⟨fun _ => i1, fun h => absurd rfl h⟩⟩⟩, up _ (fun q => d.2 q.2) i2⟩
      · rw [g.1, if_pos rfl]
        exact ⟨⟨fun h => absurd h e, fun _ => ⟨hvk, hsf, fun _ => i1, fun h => absurd rfl h⟩⟩, up _ (fun q => g.2 q.1) i2⟩
theorem pm_pkR (hP : pm_P P) (hD : pm_D P C R) (hI : pm_I P C) {a : Nat} (ha : a < P 3) : ∀ (f k : Nat) (v : Int32), k ≤ P 0 → P 0 - k < f → mg_X5_peek_L19 f P R (nI a) v (nI k) ∧ ((∃ i, k ≤ i ∧ i < P 0 ∧ pm_own P C i (a / P 2) ∧ mr_X5_peek_L19 f P R (nI a) v (nI k) = C (9, i, a / P 2 % P 1) (a % P 2)) ∨ ((∀ i, k ≤ i → i < P 0 → ¬ pm_own P C i (a / P 2)) ∧ mr_X5_peek_L19 f P R (nI a) v (nI k) = v)) := by
  have hP' := hP
  unfold pm_P at hP
  have hn5 : a / P 2 < P 5 := by
    rw [Nat.div_lt_iff_lt_mul (by omega), Nat.mul_comm]
    omega
  have hn4 : a / P 2 < 4000 := by omega
  have hm := pm_mod hP' (a / P 2)
  have c0 : R (20, 0, 0) 0 = nI (P 0) := hD.2.2.1.1
  have c1 : R (20, 0, 0) 1 = nI (P 1) := hD.2.2.1.2.1
  have c2 : R (20, 0, 0) 2 = nI (P 2) := hD.2.2.1.2.2.1
  intro f
  induction f with
  | zero => intro k _ _ h; omega
  | succ f ih =>
    intro k v hk hf
    rw [mg_X5_peek_L19, mr_X5_peek_L19, c0, c2, pn_div (show a < 4000 by omega) (show P 2 < 4000 by omega) (by omega)]
    by_cases hkP : k = P 0
    · subst hkP
      have e : nI (P 0) ≤ nI (P 0) := (pn_le (by omega) (by omega)).mpr (Nat.le_refl _)
      rw [if_pos e]
      exact ⟨⟨fun _ => trivial, fun h => absurd e h⟩, Or.inr ⟨fun i h1 h2 => by omega, rfl⟩⟩
    · have hkP : k < P 0 := by omega
      have e : ¬ nI (P 0) ≤ nI k := by rw [pn_le (by omega) (by omega)]; omega
      have hmo : a % P 2 < P 2 := Nat.mod_lt _ (by omega)
      have er : nI a - nI (a / P 2) * nI (P 2) = nI (a % P 2) := by
        have := pn_rem (a := a) (b := P 2) (by omega) (by omega) (by omega)
        rwa [pn_div (show a < 4000 by omega) (show P 2 < 4000 by omega) (by omega)] at this
      have ea : (4 : Int32) * nI (8 * k + a / P 2 % P 1) + nI (a % P 2) = nI (4 * (8 * k + a / P 2 % P 1) + a % P 2) := by rw [pn_m4, nI_add]
      have hst := pr_stateOfg hP' c1 hkP hn4
      have hsl := pr_slotOfg hP' c1 (nI k) (nI (a / P 2))
      have np2 : ¬ nI (P 2) = 0 := pn_ne0 (by omega) (by omega)
      have hvi : vp_in (nI (4 * (8 * k + a / P 2 % P 1) + a % P 2)) 128 := pn_in (by omega) (by omega)
      rw [if_neg e, pr_slotOf hP' c1 hn4, er, ea, pn_clamp (show 4 * (8 * k + a / P 2 % P 1) + a % P 2 < 4000 by omega), pn_inc]
      have up : ∀ (x : Int32), ¬ pm_own P C k (a / P 2) → ((∃ i, k + 1 ≤ i ∧ i < P 0 ∧ pm_own P C i (a / P 2) ∧ x = C (9, i, a / P 2 % P 1) (a % P 2)) ∨ ((∀ i, k + 1 ≤ i → i < P 0 → ¬ pm_own P C i (a / P 2)) ∧ x = v)) → ((∃ i, k ≤ i ∧ i < P 0 ∧ pm_own P C i (a / P 2) ∧ x = C (9, i, a / P 2 % P 1) (a % P 2)) ∨ ((∀ i, k ≤ i → i < P 0 → ¬ pm_own P C i (a / P 2)) ∧ x = v)) := by
        intro x hno q
        rcases q with ⟨i, q1, q2, q3, q4⟩ | ⟨q1, q2⟩
        · exact Or.inl ⟨i, by omega, q2, q3, q4⟩
        · refine Or.inr ⟨fun i h1 h2 => ?_, q2⟩
          by_cases hik : i = k
          · rw [hik]; exact hno
          · exact q1 i (by omega) h2
      rcases pr_stateOf hP' hD hI hkP hn5 with ⟨g1, g2, g3⟩ | ⟨g1, g2⟩
      · rcases pm_dirtyR (P := P) (sg := R) (x := mr_X5_stateOf P R (nI k) (nI (a / P 2))) with d | d
        · have hown : pm_own P C k (a / P 2) := ⟨g1, by rw [g2] at d; exact d.2⟩
          have hwd := ((hD.2.2.2.2.2.2.2.1 k (a / P 2 % P 1) hkP hm.1).2.2 (a % P 2) hmo).2 g1.1
          obtain ⟨i1, i2⟩ := ih (k + 1) (R (31, 0, 0) (4 * (8 * k + a / P 2 % P 1) + a % P 2)) (by omega) (by omega)
          rw [d.1, if_neg (by decide)]
          refine ⟨⟨fun h => absurd h e, fun _ => ?_⟩, ?_⟩
          · simp [np2, hsl, hst, hvi, i1]
          · rcases i2 with ⟨i, q1, q2, q3, q4⟩ | ⟨q1, q2⟩
            · exact Or.inl ⟨i, by omega, q2, q3, q4⟩
            · exact Or.inl ⟨k, Nat.le_refl _, hkP, hown, by rw [q2, hwd]⟩
        · obtain ⟨i1, i2⟩ := ih (k + 1) v (by omega) (by omega)
          rw [d.1, if_pos rfl]
          refine ⟨⟨fun h => absurd h e, fun _ => ?_⟩, up _ (fun q => d.2 (by rw [g2]; exact q.2)) i2⟩
          simp [np2, hsl, hst, i1]
      · obtain ⟨i1, i2⟩ := ih (k + 1) v (by omega) (by omega)
        have d : mr_X5_isDirty P R 0 = 0 := by unfold mr_X5_isDirty; decide
        rw [g2, d, if_pos rfl]
        refine ⟨⟨fun h => absurd h e, fun _ => ?_⟩, up _ (fun q => g1 q.1) i2⟩
        simp [np2, hsl, hst, i1]
theorem pm_peek (hP : pm_P P) (hD : pm_D P C R) (hI : pm_I P C) (a : Int32) : mg_X4_peek P C a ∧ mg_X5_peek P R a ∧ mr_X4_peek P C a = mr_X5_peek P R a := by
  have hP' := hP
  have hw : C (1, 0, 0) 0 = nI (P 2) := hD.2.1.1
  have c3 : R (20, 0, 0) 3 = nI (P 3) := hD.2.2.1.2.2.2.1
  have h3 := hD.2.2.2.1
  unfold pm_P at hP
  unfold mg_X4_peek mg_X5_peek mr_X4_peek mr_X5_peek mr_X2_has mr_X2_lineOf mg_X2_lineOf
  rcases pn_cases a (P 3) (by omega) with h | ⟨j, hj, rfl⟩
  · simp [pm_wout h, pm_aout c3 h]
  · rw [hw, pn_div (show j < 4000 by omega) (show P 2 < 4000 by omega) (by omega), pn_clamp (show j < 4000 by omega), pn_0, pm_win hj (by omega), pm_ain c3 hj (by omega), if_neg (by decide), if_neg (by decide)]
    obtain ⟨g1, g2⟩ := pm_pkC hP' hD hj 5 0 (by omega) (by omega)
    obtain ⟨k1, k2⟩ := pm_pkR hP' hD hI hj 5 0 (R (21, 0, 0) j) (by omega) (by omega)
    refine ⟨⟨fun h => absurd h (by decide), fun _ => ⟨⟨pn_ne0 (by omega) (by omega), trivial⟩, g1⟩⟩, ⟨fun h => absurd h (by decide), fun _ => ⟨pn_in (by omega) (by omega), k1⟩⟩, ?_⟩
    have hn5 : j / P 2 < P 5 := by
      rw [Nat.div_lt_iff_lt_mul (by omega), Nat.mul_comm]
      omega
    rcases g2 with ⟨i, -, q2, q3, q4⟩ | ⟨q1, q2⟩
    · rcases k2 with ⟨i', -, r2, r3, r4⟩ | ⟨r1, r2⟩
      · rw [q4, r4, pm_own1 hI hn5 q2 r2 q3 r3]
      · exact absurd q3 (r1 i (Nat.zero_le _) q2)
    · rcases k2 with ⟨i', -, r2, r3, r4⟩ | ⟨r1, r2⟩
      · exact absurd r3 (q1 i' (Nat.zero_le _) r2)
      · rw [q2, r2]
        exact h3 j hj
end PMK
