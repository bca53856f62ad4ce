/-! bus: SNOOP, all onlookers. -/
section PMO
variable {P : Nat → Nat} {C R : wk_Sg}
def pm_snX (P : Nat → Nat) (C C' : wk_Sg) (c n k : Nat) : Prop :=
  (∀ κ : wk_K3, ¬ κ.1 = 8 → ¬ κ.1 = 2 → ¬ κ.1 = 10 → ¬ κ.1 = 12 → C' κ = C κ) ∧ (∀ q, ¬ q = 4 → C' (10, 0, 0) q = C (10, 0, 0) q) ∧ (C' (10, 0, 0) 4 = C (10, 0, 0) 4 ∨ C' (10, 0, 0) 4 = 1) ∧ ((∃ i, k ≤ i ∧ i < P 0 ∧ ¬ i = c ∧ pm_hold P C i n) → C' (10, 0, 0) 4 = 1) ∧
  ∀ i j, i < P 0 → j < P 1 → ((k ≤ i ∧ ¬ i = c ∧ j = n % P 1 ∧ pm_hold P C i n → (C (10, 0, 0) 7 = 1 → C' (8, i, j) 1 = pm_lor (C (8, i, j) 1) ∧ C' (8, i, j) 2 = C (8, i, j) 2) ∧ (¬ C (10, 0, 0) 7 = 1 → C' (8, i, j) 1 = 0 ∧ C' (8, i, j) 2 = -1)) ∧ (¬ (k ≤ i ∧ ¬ i = c ∧ j = n % P 1 ∧ pm_hold P C i n) → C' (8, i, j) 1 = C (8, i, j) 1 ∧ C' (8, i, j) 2 = C (8, i, j) 2))
/-- one onlooker: what the component's cells are then -/
theorem pm_look8 (hP : pm_P P) {i j i' j' : Nat} : (¬ (i' = i ∧ j' = j) → ms_X0_lookOn P C i j (8, i', j') = C (8, i', j')) ∧ ((C (10, 0, 0) 7 = 1 → ms_X0_lookOn P C i j (8, i, j) 1 = pm_lor (C (8, i, j) 1) ∧ ms_X0_lookOn P C i j (8, i, j) 2 = C (8, i, j) 2) ∧ (¬ C (10, 0, 0) 7 = 1 → ms_X0_lookOn P C i j (8, i, j) 1 = 0 ∧ ms_X0_lookOn P C i j (8, i, j) 2 = -1)) := by
  rw [pm_look hP]
  have l8 : ∀ a b, pm_lk P C i j (8, a, b) = C (8, a, b) := fun a b => pm_lko (by simp) (by simp)
  refine ⟨fun h => ?_, fun h => ?_, fun h => ?_⟩
  · have n2 : ¬ ((8, i', j') : wk_K3) = (8, i, j) := by simp; omega
    split
    · rw [wk_up_ne _ _ _ n2, l8]
    · funext k
      rw [pm_gu8, if_neg (by omega), if_neg (by omega), l8]
  · rw [if_pos h]
    simp [wk_up_at, l8]
  · rw [if_neg h, pm_gu8, pm_gu8]
    simp
theorem pm_looko (hP : pm_P P) {i j : Nat} {κ : wk_K3} (h8 : ¬ κ.1 = 8) (h2 : ¬ κ.1 = 2) (h10 : ¬ κ.1 = 10) (h12 : ¬ κ.1 = 12) : ms_X0_lookOn P C i j κ = C κ := by
  rw [pm_look hP]
  split
  · rw [wk_up_ne _ _ _ (fun e => h8 (by rw [e])), pm_lko h10 h12]
  · rw [pm_guo h8 h2, pm_lko h10 h12]
theorem pm_lookb (hP : pm_P P) {i j k : Nat} : ms_X0_lookOn P C i j (10, 0, 0) k = if k = 4 then 1 else C (10, 0, 0) k := by
  rw [pm_look hP]
  split
  · rw [wk_up_ne _ _ _ (by simp), pm_lkb]
  · rw [pm_guo (by simp) (by simp), pm_lkb]
/-- one onlooker on both sides -/
theorem pm_snS (hP : pm_P P) (hE : pm_E P C R) {i n : Nat} (hi : i < P 0) (hn : n < P 5) (hh : pm_hold P C i n) (v : Int32) (R2 : wk_Sg) (h2 : ms_X5_snoop_L93 5 P (wk_up R (20, 0, 0) 21 1) v (nI (8 * i + n % P 1)) (C (8, i, n % P 1) 1) 0 = R2) :
    mg_X0_lookOn P C i (n % P 1) ∧ mg_X5_snoop_L93 5 P (wk_up R (20, 0, 0) 21 1) v (nI (8 * i + n % P 1)) (C (8, i, n % P 1) 1) 0 ∧ R2 (20, 0, 0) 19 = C (10, 0, 0) 7 ∧ R2 (33, 0, 0) = R (33, 0, 0) ∧
    (C (10, 0, 0) 7 = 1 → pm_E P (ms_X0_lookOn P C i (n % P 1)) (wk_up R2 (29, 0, 0) (8 * i + n % P 1) (pm_lor (C (8, i, n % P 1) 1)))) ∧
    (¬ C (10, 0, 0) 7 = 1 → (mr_X5_isDirty P R2 (C (8, i, n % P 1) 1) = 0 → mg_X5_empty P R2 (nI (8 * i + n % P 1)) ∧ ms_X5_empty P R2 (nI (8 * i + n % P 1)) (33, 0, 0) = R (33, 0, 0) ∧ pm_E P (ms_X0_lookOn P C i (n % P 1)) (ms_X5_empty P R2 (nI (8 * i + n % P 1)))) ∧ (¬ mr_X5_isDirty P R2 (C (8, i, n % P 1) 1) = 0 → mg_X5_writeBack P R2 (nI (8 * i + n % P 1)) ∧ ms_X5_writeBack P R2 (nI (8 * i + n % P 1)) (20, 0, 0) 19 = C (10, 0, 0) 7 ∧ mg_X5_empty P (ms_X5_writeBack P R2 (nI (8 * i + n % P 1))) (nI (8 * i + n % P 1)) ∧ ms_X5_empty P (ms_X5_writeBack P R2 (nI (8 * i + n % P 1))) (nI (8 * i + n % P 1)) (33, 0, 0) = R (33, 0, 0) ∧ pm_E P (ms_X0_lookOn P C i (n % P 1)) (ms_X5_empty P (ms_X5_writeBack P R2 (nI (8 * i + n % P 1))) (nI (8 * i + n % P 1))))) := by
  have hm := pm_mod hP n
  obtain ⟨a1, a2, a3⟩ := pm_lkE hP hE hi hm.1 hh.1 v
  rw [h2] at a2 a3
  have l8 : ∀ a b, pm_lk P C i (n % P 1) (8, a, b) = C (8, a, b) := fun a b => pm_lko (by simp) (by simp)
  have hk : R2 (20, 0, 0) 19 = C (10, 0, 0) 7 := by
    rw [← a2.2.2.2.2.2.2.2.2.1.2.1, pm_lkb]
    simp
  have h33 : R2 (33, 0, 0) = R (33, 0, 0) := a3 (33, 0, 0) (by simp) (by simp)
  have hl : pm_lk P C i (n % P 1) (8, i, n % P 1) 2 = nI n := by rw [l8]; exact hh.2
  have ht : 8 * i + n % P 1 < 32 := by unfold pm_P at hP; omega
  have hgive : mg_X2_giveUp P (pm_lk P C i (n % P 1)) i (n % P 1) := by
    by_cases hd : pm_new (pm_lk P C i (n % P 1)) i (n % P 1)
    · exact (pm_gu1e hP a2 hi hm.1 hd hn hl).1
    · exact (pm_gu0e hP a2 hi hm.1 hd).1
  refine ⟨pm_lookg hP hgive, a1, hk, h33, fun e => ?_, fun e => ⟨fun hd => ?_, fun hd => ?_⟩⟩
  · rw [pm_look hP, if_pos e]
    exact a2.s4 hP hi hm.1 (by rw [l8]; exact hh.1) rfl (pm_lor0 hh.1)
  · have hd' : ¬ pm_new (pm_lk P C i (n % P 1)) i (n % P 1) := by
      unfold pm_new
      rw [l8]
      rcases pm_dirtyR (P := P) (sg := R2) (x := C (8, i, n % P 1) 1) with q | q
      · rw [q.1] at hd
        exact absurd hd (by decide)
      · exact q.2
    obtain ⟨q1, q2, q3⟩ := pm_gu0e hP a2 hi hm.1 hd'
    refine ⟨q2, ?_, ?_⟩
    · rw [(pr_empty (P := P) (sg := R2) ht).2, ← h33]
      unfold pr_E
      rw [wk_su_ne _ _ (by simp), wk_up_ne _ _ _ (by simp), wk_up_ne _ _ _ (by simp)]
    · rw [pm_look hP, if_neg e]
      exact q3
  · have hd' : pm_new (pm_lk P C i (n % P 1)) i (n % P 1) := by
      unfold pm_new
      rw [l8]
      rcases pm_dirtyR (P := P) (sg := R2) (x := C (8, i, n % P 1) 1) with q | q
      · exact q.2
      · exact absurd q.1 hd
    obtain ⟨q1, q2, q3, q4⟩ := pm_gu1e hP a2 hi hm.1 hd' hn hl
    have hb : P 2 * n + P 2 ≤ 64 := by
      unfold pm_P at hP
      have : P 2 * (n + 1) ≤ P 2 * P 5 := Nat.mul_le_mul_left _ hn
      rw [Nat.mul_succ] at this
      omega
    have hl2 : R2 (30, 0, 0) (8 * i + n % P 1) = nI n := by rw [← (a2.2.2.2.2.2.2.2.1 i (n % P 1) hi hm.1).2.1]; exact hl
    have e2 := (pr_back (P := P) (sg := R2) (t := 8 * i + n % P 1) (w := P 2) (ln := n) (by unfold pm_P at hP; omega) ht hb a2.2.2.1.2.2.1 hl2).2
    refine ⟨q2, ?_, q3, ?_, ?_⟩
    · rw [e2, ← hk]
      unfold pr_W
      rw [wk_su_ne _ _ (by simp)]
    · rw [(pr_empty (P := P) (sg := ms_X5_writeBack P R2 (nI (8 * i + n % P 1))) ht).2, e2, ← h33]
      unfold pr_E pr_W
      rw [wk_su_ne _ _ (by simp), wk_up_ne _ _ _ (by simp), wk_up_ne _ _ _ (by simp), wk_su_ne _ _ (by simp)]
    · rw [pm_look hP, if_neg e]
      exact q4
theorem pr_ph3 (sg : wk_Sg) : mg_X5_phase P sg 3 := by
  unfold mg_X5_phase
  have v : vp_in 3 5 := pn_in (a := 3) (by omega) (by omega)
  exact ⟨fun _ => ⟨v, v, trivial⟩, fun _ => ⟨v, v, trivial⟩⟩
set_option maxHeartbeats 4000000 in
theorem pm_snL (hP : pm_P P) {c n : Nat} (hc : c < P 0) (hn : n < P 5) : ∀ (f k : Nat) (C R : wk_Sg), k ≤ P 0 → P 0 - k < f → pm_E P C R → pm_i3 P C → C (10, 0, 0) 6 = nI c → C (10, 0, 0) 8 = nI n → (C (10, 0, 0) 7 = 1 ∨ C (10, 0, 0) 7 = 2) →
    mg_X0_snoop_L22 f P C (nI k) ∧ mg_X5_snoop_L45 f P R (nI k) ∧ (∃ R', ms_X5_snoop_L45 f P R (nI k) = ms_X5_phase P R' 3 ∧ mr_X5_snoop_L45 f P R (nI k) = mr_X5_phase P R' 3 ∧ pm_E P (ms_X0_snoop_L22 f P C (nI k)) R' ∧ R' (33, 0, 0) = R (33, 0, 0)) ∧ pm_snX P C (ms_X0_snoop_L22 f P C (nI k)) c n k := by
  have hn4 : n < 4000 := by unfold pm_P at hP; omega
  have hm := pm_mod hP n
  have hp0 : P 0 < 4000 := by unfold pm_P at hP; omega
  intro f
  induction f with
  | zero => intro k C R _ h; omega
  | succ f ih =>
    intro k C R hk hf hE h3 h6 h8 h7
    have c0 : R (20, 0, 0) 0 = nI (P 0) := hE.2.2.1.1
    have c1 : R (20, 0, 0) 1 = nI (P 1) := hE.2.2.1.2.1
    have m6 : R (20, 0, 0) 18 = nI c := by rw [← hE.2.2.2.2.2.2.2.2.1.1]; exact h6
    have m8 : R (20, 0, 0) 20 = nI n := by rw [← hE.2.2.2.2.2.2.2.2.1.2.2.1]; exact h8
    rw [mg_X0_snoop_L22, ms_X0_snoop_L22, mg_X5_snoop_L45, ms_X5_snoop_L45, mr_X5_snoop_L45]
    by_cases hkP : k = P 0
    · have e : nI (P 0) ≤ nI k := by rw [hkP]; exact (pn_le hp0 hp0).mpr (Nat.le_refl _)
      simp only [c0, e]
      refine ⟨by simp, by simp [pr_ph3], ⟨R, by simp, by simp, by simpa using hE, rfl⟩, ?_⟩
      simp only [if_true]
      refine ⟨fun _ _ _ _ _ => rfl, fun _ _ => rfl, Or.inl rfl, fun ⟨i, h1, h2, _⟩ => by omega, fun i j hi hj => ⟨fun h => by omega, fun _ => ⟨rfl, rfl⟩⟩⟩
    · have hkP : k < P 0 := by omega
      have e : ¬ nI (P 0) ≤ nI k := by rw [pn_le hp0 (by omega)]; omega
      have hvk : vp_in (nI k) (P 0) := pn_in hkP hp0
      have hsf := pm_slotFor hP (sg := C) (i := k) hn4
      have hst := pr_stateOfg hP c1 hkP hn4
      have hsl := pr_slotOfg hP c1 (nI k) (nI n)
      have hso := pr_slotOf hP c1 (i := k) hn4
      have ht4 : 8 * k + n % P 1 < 4000 := by unfold pm_P at hP; omega
      have vAT : vp_in (nI (8 * k + n % P 1)) 32 := pn_in (by unfold pm_P at hP; omega) (by omega)
      have skip : (¬ (¬ k = c ∧ pm_hold P C k n)) → mg_X0_snoop_L22 f P C (nI (k + 1)) ∧ mg_X5_snoop_L45 f P R (nI (k + 1)) ∧ (∃ R', ms_X5_snoop_L45 f P R (nI (k + 1)) = ms_X5_phase P R' 3 ∧ mr_X5_snoop_L45 f P R (nI (k + 1)) = mr_X5_phase P R' 3 ∧ pm_E P (ms_X0_snoop_L22 f P C (nI (k + 1))) R' ∧ R' (33, 0, 0) = R (33, 0, 0)) ∧ pm_snX P C (ms_X0_snoop_L22 f P C (nI (k + 1))) c n k := by
        intro hno
        obtain ⟨q1, q2, q3, q4, q5, q6, q7, q8⟩ := ih (k + 1) C R (by omega) (by omega) hE h3 h6 h8 h7
        refine ⟨q1, q2, q3, q4, q5, q6, fun ⟨i, r1, r2, r3, r4⟩ => ?_, fun i j hi hj => ?_⟩
        · refine q7 ⟨i, ?_, r2, r3, r4⟩
          by_cases z : i = k
          · exact absurd ⟨z ▸ r3, z ▸ r4⟩ hno
          · omega
        · obtain ⟨s1, s2⟩ := q8 i j hi hj
          by_cases z : i = k
          · subst z
            refine ⟨fun h => absurd ⟨h.2.1, h.2.2.2⟩ hno, fun _ => s2 (by omega)⟩
          · refine ⟨fun h => s1 ⟨by omega, h.2⟩, fun h => s2 (fun q => h ⟨by omega, q.2⟩)⟩
      simp only [c0, e, m6, m8, h6, h8, hso, pm_idx hP hn4, pn_clamp hm.2, pn_clamp (show k < 4000 by omega), pn_clamp ht4, pn_inc]
      by_cases hkc : k = c
      · have e2 : nI k = nI c := by rw [hkc]
        obtain ⟨q1, q2, ⟨R', q3, q4, q5, q6⟩, q7⟩ := skip (fun h => h.1 hkc)
        have e2t := eq_true e2
        refine ⟨by simp [e2t, hvk, hsf, q1], by simp [e2t, hsl, hst, q2], ⟨R', by simpa [e2t] using q3, by simpa [e2t] using q4, by simpa [e2t] using q5, q6⟩, by simpa [e2t] using q7⟩
      · have e2 : ¬ nI k = nI c := by rw [pn_eq (by omega) (by omega)]; exact hkc
        rcases pr_stateOf3 hP hE h3 hkP hn with ⟨g1, g2, g3⟩ | ⟨g1, g2⟩
        · have hh : mr_X3_holds P C k (n % P 1) (nI n) = 1 := by
            rcases pm_holds (P := P) (C := C) (i := k) (n := n) with q | q
            · exact q.1
            · exact absurd g1 q.2
          simp only [g2]
          generalize hR2 : ms_X5_snoop_L93 5 P (wk_up R (20, 0, 0) 21 1) (nI k) (nI (8 * k + n % P 1)) (C (8, k, n % P 1) 1) 0 = R2
          obtain ⟨b1, b2, b3, b4, b5, b6⟩ := pm_snS hP hE hkP hn g1 (nI k) R2 hR2
          have hs0 : ¬ C (8, k, n % P 1) 1 = 0 := g1.1
          -- the rest of the loop, from what the component's cells are now
          have h3' : pm_i3 P (ms_X0_lookOn P C k (n % P 1)) := by
            intro i' j' hi' hj'
            by_cases z : i' = k ∧ j' = n % P 1
            · obtain ⟨rfl, rfl⟩ := z
              obtain ⟨-, l1, l2⟩ := pm_look8 (C := C) hP (i := i') (j := n % P 1) (i' := i') (j' := n % P 1)
              by_cases z7 : C (10, 0, 0) 7 = 1
              · rw [(l1 z7).1, (l1 z7).2]
                exact Or.inr ⟨pm_lor0 g1.1, n, hn, g1.2⟩
              · exact Or.inl (l2 z7)
            · rw [(pm_look8 (C := C) hP (i := k) (j := n % P 1)).1 z]
              exact h3 i' j' hi' hj'
          have lb := fun q => pm_lookb (C := C) hP (i := k) (j := n % P 1) (k := q)
          have next : ∀ R3 : wk_Sg, pm_E P (ms_X0_lookOn P C k (n % P 1)) R3 → R3 (33, 0, 0) = R (33, 0, 0) → mg_X0_snoop_L22 f P (ms_X0_lookOn P C k (n % P 1)) (nI (k + 1)) ∧ mg_X5_snoop_L45 f P R3 (nI (k + 1)) ∧ (∃ R', ms_X5_snoop_L45 f P R3 (nI (k + 1)) = ms_X5_phase P R' 3 ∧ mr_X5_snoop_L45 f P R3 (nI (k + 1)) = mr_X5_phase P R' 3 ∧ pm_E P (ms_X0_snoop_L22 f P (ms_X0_lookOn P C k (n % P 1)) (nI (k + 1))) R' ∧ R' (33, 0, 0) = R (33, 0, 0)) ∧ pm_snX P C (ms_X0_snoop_L22 f P (ms_X0_lookOn P C k (n % P 1)) (nI (k + 1))) c n k := by
            intro R3 hE3 h33
            obtain ⟨q1, q2, ⟨R', r1, r2, r3, r4⟩, q4, q5, q6, q7, q8⟩ := ih (k + 1) (ms_X0_lookOn P C k (n % P 1)) R3 (by omega) (by omega) hE3 h3' (by rw [lb]; simpa using h6) (by rw [lb]; simpa using h8) (by rw [lb]; simpa using h7)
            have lk4 : ms_X0_lookOn P C k (n % P 1) (10, 0, 0) 4 = 1 := by rw [lb]; simp
            have lk7 : ms_X0_lookOn P C k (n % P 1) (10, 0, 0) 7 = C (10, 0, 0) 7 := by rw [lb]; simp
            have f4 : ms_X0_snoop_L22 f P (ms_X0_lookOn P C k (n % P 1)) (nI (k + 1)) (10, 0, 0) 4 = 1 := by
              rcases q6 with q6 | q6
              · rw [q6, lk4]
              · exact q6
            refine ⟨q1, q2, ⟨R', r1, r2, r3, r4.trans h33⟩, fun κ z1 z2 z3 z4 => ?_, fun q hq => ?_, Or.inr f4, fun _ => f4, fun i j hi hj => ?_⟩
            · rw [q4 κ z1 z2 z3 z4, pm_looko hP z1 z2 z3 z4]
            · rw [q5 q hq, lb, if_neg hq]
            · obtain ⟨s1, s2⟩ := q8 i j hi hj
              by_cases z : i = k
              · subst z
                obtain ⟨t1, t2⟩ := s2 (by omega)
                rw [t1, t2]
                by_cases zj : j = n % P 1
                · subst zj
                  obtain ⟨-, l1, l2⟩ := pm_look8 (C := C) hP (i := i) (j := n % P 1) (i' := i) (j' := n % P 1)
                  exact ⟨fun _ => ⟨l1, l2⟩, fun h => absurd ⟨Nat.le_refl _, hkc, rfl, g1⟩ h⟩
                · rw [(pm_look8 (C := C) hP (i := i) (j := n % P 1) (i' := i) (j' := j)).1 (by omega)]
                  exact ⟨fun h => absurd h.2.2.1 zj, fun _ => ⟨rfl, rfl⟩⟩
              · have z8 : ∀ j', ms_X0_lookOn P C k (n % P 1) (8, i, j') = C (8, i, j') := fun j' => (pm_look8 (C := C) hP (i := k) (j := n % P 1) (i' := i) (j' := j')).1 (by omega)
                have zh : pm_hold P (ms_X0_lookOn P C k (n % P 1)) i n ↔ pm_hold P C i n := by
                  unfold pm_hold
                  rw [z8]
                rw [z8, lk7, zh] at s1
                rw [z8, zh] at s2
                refine ⟨fun h => s1 ⟨by omega, h.2⟩, fun h => s2 (fun q => h ⟨by omega, q.2⟩)⟩
          by_cases h71 : C (10, 0, 0) 7 = 1
          · have n2 : ¬ R2 (20, 0, 0) 19 = 2 := by rw [b3, h71]; decide
            have hE3 := b5 h71
            unfold pm_lor at hE3
            by_cases s4 : C (8, k, n % P 1) 1 = 4
            · rw [if_pos s4] at hE3
              rw [s4] at b2
              obtain ⟨q1, q2, ⟨R', q3, q4, q5, q6⟩, q7⟩ := next _ hE3 (by rw [wk_up_ne _ _ _ (by simp)]; exact b4)
              refine ⟨by simp [e2, hvk, hsf, hh, b1, q1], by simp [e2, hsl, hst, hs0, b2, n2, s4, vAT, q2], ⟨R', by simpa [e2, hs0, n2, s4] using q3, by simpa [e2, hs0, n2, s4] using q4, by simpa [e2, hh] using q5, q6⟩, by simpa [e2, hh] using q7⟩
            · rw [if_neg s4] at hE3
              by_cases s2 : C (8, k, n % P 1) 1 = 2
              · rw [if_pos s2] at hE3
                rw [s2] at b2
                obtain ⟨q1, q2, ⟨R', q3, q4, q5, q6⟩, q7⟩ := next _ hE3 (by rw [wk_up_ne _ _ _ (by simp)]; exact b4)
                refine ⟨by simp [e2, hvk, hsf, hh, b1, q1], by simp [e2, hsl, hst, hs0, b2, n2, s2, vAT, q2], ⟨R', by simpa [e2, hs0, n2, s2] using q3, by simpa [e2, hs0, n2, s2] using q4, by simpa [e2, hh] using q5, q6⟩, by simpa [e2, hh] using q7⟩
              · rw [if_neg s2] at hE3
                obtain ⟨q1, q2, ⟨R', q3, q4, q5, q6⟩, q7⟩ := next _ hE3 (by rw [wk_up_ne _ _ _ (by simp)]; exact b4)
                refine ⟨by simp [e2, hvk, hsf, hh, b1, q1], by simp [e2, hsl, hst, hs0, b2, n2, s2, s4, vAT, q2], ⟨R', by simpa [e2, hs0, n2, s2, s4] using q3, by simpa [e2, hs0, n2, s2, s4] using q4, by simpa [e2, hh] using q5, q6⟩, by simpa [e2, hh] using q7⟩
          · have h72 : C (10, 0, 0) 7 = 2 := h7.resolve_left h71
            have n2 : R2 (20, 0, 0) 19 = 2 := by rw [b3, h72]
            obtain ⟨d0, d1⟩ := b6 h71
            by_cases hd : mr_X5_isDirty P R2 (C (8, k, n % P 1) 1) = 0
            · obtain ⟨t1, t2, t3⟩ := d0 hd
              obtain ⟨q1, q2, ⟨R', q3, q4, q5, q6⟩, q7⟩ := next _ t3 t2
              refine ⟨by simp [e2, hvk, hsf, hh, b1, q1], by simp [e2, hsl, hst, hs0, b2, n2, hd, t1, q2], ⟨R', by simpa [e2, hs0, n2, hd] using q3, by simpa [e2, hs0, n2, hd] using q4, by simpa [e2, hh] using q5, q6⟩, by simpa [e2, hh] using q7⟩
            · obtain ⟨t1, t2, t3, t4, t5⟩ := d1 hd
              rw [h72] at t2
              obtain ⟨q1, q2, ⟨R', q3, q4, q5, q6⟩, q7⟩ := next _ t5 t4
              refine ⟨by simp [e2, hvk, hsf, hh, b1, q1], by simp [e2, hsl, hst, hs0, b2, n2, hd, t1, t2, t3, q2], ⟨R', by simpa [e2, hs0, n2, hd, t2] using q3, by simpa [e2, hs0, n2, hd, t2] using q4, by simpa [e2, hh] using q5, q6⟩, by simpa [e2, hh] using q7⟩
        · have hh : mr_X3_holds P C k (n % P 1) (nI n) = 0 := by
            rcases pm_holds (P := P) (C := C) (i := k) (n := n) with q | q
            · exact absurd q.2 g1
            · exact q.1
          obtain ⟨q1, q2, ⟨R', q3, q4, q5, q6⟩, q7⟩ := skip (fun h => g1 h.2)
          refine ⟨by simp [e2, hvk, hsf, hh, q1], by simp [e2, hsl, hst, g2, q2], ⟨R', by simpa [e2, g2] using q3, by simpa [e2, g2] using q4, by simpa [e2, hh] using q5, q6⟩, by simpa [e2, hh] using q7⟩
end PMO
