/-! bus: a request is taken. -/
section PMB
variable {P : Nat → Nat} {C R : wk_Sg}
theorem pm_low (hP : pm_P P) : ∀ (f k : Nat), k ≤ P 0 → P 0 - k < f → mg_X0_lowestWithRequest_L2 f P C (nI k) ∧ ((∃ c, k ≤ c ∧ c < P 0 ∧ ¬ C (4, c, 0) 8 = 0 ∧ (∀ i, k ≤ i → i < c → C (4, i, 0) 8 = 0) ∧ mr_X0_lowestWithRequest_L2 f P C (nI k) = nI c) ∨ ((∀ i, k ≤ i → i < P 0 → C (4, i, 0) 8 = 0) ∧ mr_X0_lowestWithRequest_L2 f P C (nI k) = -1)) := by
  unfold pm_P at hP
  intro f
  induction f with
  | zero => intro k _ h; omega
  | succ f ih =>
    intro k hk hf
    rw [mg_X0_lowestWithRequest_L2, mr_X0_lowestWithRequest_L2]
    by_cases hkP : k = P 0
    · subst hkP
      have e : nI (P 0) ≤ nI (P 0) := (pn_le (by omega) (by omega)).mpr (Nat.le_refl _)
      rw [if_pos e]
      exact ⟨⟨fun _ => trivial, fun h => absurd e h⟩, Or.inr ⟨fun i h1 h2 => by omega, rfl⟩⟩
    · have hkP : k < P 0 := by omega
      have e : ¬ nI (P 0) ≤ nI k := by rw [pn_le (by omega) (by omega)]; omega
      have hvk : vp_in (nI k) (P 0) := pn_in hkP (by omega)
      obtain ⟨i1, i2⟩ := ih (k + 1) (by omega) (by omega)
      rw [if_neg e, pn_clamp (show k < 4000 by omega), pn_inc]
      by_cases hz : C (4, k, 0) 8 = 0
      · rw [if_pos hz]
        refine ⟨⟨fun h => absurd h e, fun _ => ⟨hvk, fun _ => i1, fun h => absurd hz h⟩⟩, ?_⟩
        rcases i2 with ⟨c, q1, q2, q3, q4, q5⟩ | ⟨q1, q2⟩
        · refine Or.inl ⟨c, by omega, q2, q3, fun i h1 h2 => ?_, q5⟩
          by_cases z : i = k
          · rw [z]; exact hz
          · exact q4 i (by omega) h2
        · refine Or.inr ⟨fun i h1 h2 => ?_, q2⟩
          by_cases z : i = k
          · rw [z]; exact hz
          · exact q1 i (by omega) h2
      · rw [if_neg hz]
        exact ⟨⟨fun h => absurd h e, fun _ => ⟨hvk, fun h => absurd h hz, fun _ => trivial⟩⟩, Or.inl ⟨k, Nat.le_refl _, hkP, hz, fun i h1 h2 => by omega, rfl⟩⟩
def pr_T (R : wk_Sg) (c : Nat) : wk_Sg := wk_up (wk_up (wk_up (wk_up (wk_up R (20, 0, 0) 18 (nI c)) (20, 0, 0) 19 (R (27, 0, 0) c)) (20, 0, 0) 20 (R (28, 0, 0) c)) (27, 0, 0) c 0) (28, 0, 0) c (-1)
theorem pr_ph1 (sg : wk_Sg) : mg_X5_phase P sg 1 := by
  unfold mg_X5_phase
  have v : vp_in 1 5 := pn_in (a := 1) (by omega) (by omega)
  exact ⟨fun _ => ⟨v, v, trivial⟩, fun _ => ⟨v, v, trivial⟩⟩
theorem pr_take (hP : pm_P P) (c0 : R (20, 0, 0) 0 = nI (P 0)) : ∀ (f k : Nat), k ≤ P 0 → P 0 - k < f → mg_X5_take_L2 f P R (nI k) ∧ ((∃ c, k ≤ c ∧ c < P 0 ∧ ¬ R (27, 0, 0) c = 0 ∧ (∀ i, k ≤ i → i < c → R (27, 0, 0) i = 0) ∧ mr_X5_take_L2 f P R (nI k) = mr_X5_phase P (pr_T R c) 1 ∧ ms_X5_take_L2 f P R (nI k) = ms_X5_phase P (pr_T R c) 1) ∨ ((∀ i, k ≤ i → i < P 0 → R (27, 0, 0) i = 0) ∧ mr_X5_take_L2 f P R (nI k) = 0 ∧ ms_X5_take_L2 f P R (nI k) = R)) := by
  unfold pm_P at hP
  intro f
  induction f with
  | zero => intro k _ h; omega
  | succ f ih =>
    intro k hk hf
    rw [mg_X5_take_L2, mr_X5_take_L2, ms_X5_take_L2, c0]
    by_cases hkP : k = P 0
    · subst hkP
      have e : nI (P 0) ≤ nI (P 0) := (pn_le (by omega) (by omega)).mpr (Nat.le_refl _)
      refine ⟨by simp [e], Or.inr ⟨fun i h1 h2 => by omega, by simp [e], by simp [e]⟩⟩
    · have hkP : k < P 0 := by omega
      have e : ¬ nI (P 0) ≤ nI k := by rw [pn_le (by omega) (by omega)]; omega
      have e2 : ¬ nI k = nI (P 0) := by rw [pn_eq (by omega) (by omega)]; omega
      have hvk : vp_in (nI k) 4 := pn_in (by omega) (by omega)
      obtain ⟨i1, i2⟩ := ih (k + 1) (by omega) (by omega)
      simp only [pn_clamp (show k < 4000 by omega), pn_inc]
      by_cases hz : R (27, 0, 0) k = 0
      · refine ⟨by simp [e, hz, hvk, i1], ?_⟩
        simp only [e, hz, if_true, if_false]
        rcases i2 with ⟨c, q1, q2, q3, q4, q5, q6⟩ | ⟨q1, q2, q3⟩
        · refine Or.inl ⟨c, by omega, q2, q3, fun i h1 h2 => ?_, q5, q6⟩
          by_cases z : i = k
          · rw [z]; exact hz
          · exact q4 i (by omega) h2
        · refine Or.inr ⟨fun i h1 h2 => ?_, q2, q3⟩
          by_cases z : i = k
          · rw [z]; exact hz
          · exact q1 i (by omega) h2
      · refine ⟨by simp [e, e2, hz, hvk, pr_ph1], Or.inl ⟨k, Nat.le_refl _, hkP, hz, fun i h1 h2 => by omega, ?_, ?_⟩⟩
        · unfold pr_T
          simp [e, e2, hz, wk_up_at]
        · unfold pr_T
          simp [e, e2, hz, wk_up_at]
/-- the component begins -/
theorem pm_bgn {S : wk_Sg} {c : Nat} : ms_X0_begin P S c = wk_up (wk_up (wk_up (wk_up (wk_up S (10, 0, 0) 6 (S (4, c, 0) 0)) (10, 0, 0) 7 (S (4, c, 0) 8)) (10, 0, 0) 8 (S (4, c, 0) 9)) (4, c, 0) 8 0) (4, c, 0) 9 (-1) := by
  unfold ms_X0_begin ms_X1_forgetRequest
  simp [wk_up_at]
theorem pm_bgnI (hP : pm_P P) (hI : pm_I P C) (h0 : C (10, 0, 0) 5 = 0) (hD : pm_E P C R) {c : Nat} (hc : c < P 0) (hq : ¬ C (4, c, 0) 8 = 0) (d : Int32) : pm_I P (ms_X0_begin P (wk_up (wk_up C (10, 0, 0) 5 1) (11, 0, 0) 0 d) c) := by
  rw [pm_bgn]
  have num : C (4, c, 0) 0 = nI c := hD.2.1.2 c hc
  obtain ⟨i1, i2, i3, i4, i5⟩ := hI
  rcases i2 c hc with g | ⟨g1, g2, n, g3, g4, g5⟩
  · exact absurd g hq
  refine ⟨fun i hi => by simpa [wk_up_at] using i1 i hi, fun i hi => ?_, fun i j hi hj => by simpa [wk_up_at] using i3 i j hi hj, ?_, fun n' a b hn' ha hb hne q1 q2 => ?_⟩
  · by_cases e : i = c
    · subst e
      exact Or.inl (by simp [wk_up_at])
    · simpa [pm_hold, wk_up_at, e] using i2 i hi
  · refine Or.inr ⟨Or.inl (by simp [wk_up_at]), by simpa [wk_up_at] using g1, c, n, hc, g3, by simpa [wk_up_at] using num, by simpa [wk_up_at] using g4, by simpa [wk_up_at] using g2, by simp [wk_up_at], fun e q => g5 (by simpa [wk_up_at] using e) (by simpa [pm_hold, wk_up_at] using q), fun e => ?_⟩
    simp [wk_up_at] at e
  · simpa [wk_up_at] using i5 n' a b hn' ha hb hne (by simpa [pm_hold, wk_up_at] using q1) (by simpa [pm_hold, wk_up_at] using q2)
theorem pm_bus0 (hP : pm_P P) (hD : pm_D P C R) (hI : pm_I P C) (h0 : C (10, 0, 0) 5 = 0) : (mg_X4_bus P C ∧ mg_X5_bus P R ∧ mr_X4_bus P C = mr_X5_bus P R) ∧ pm_D P (ms_X4_bus P C) (ms_X5_bus P R) ∧ pm_I P (ms_X4_bus P C) := by
  have hR0 : R (20, 0, 0) 17 = 0 := by rw [← hD.2.2.2.2.2.2.2.2.1.1]; exact h0
  have h6 := hD.2.2.2.2.2.2.1
  obtain ⟨l1, l2⟩ := pm_low (P := P) (C := C) hP 5 0 (by omega) (by unfold pm_P at hP; omega)
  obtain ⟨k1, k2⟩ := pr_take (P := P) (R := R) hP hD.2.2.1.1 5 0 (by omega) (by unfold pm_P at hP; omega)
  have eL : mr_X0_lowestWithRequest P C = mr_X0_lowestWithRequest_L2 5 P C (nI 0) := rfl
  have eG : mg_X0_lowestWithRequest P C = mg_X0_lowestWithRequest_L2 5 P C (nI 0) := rfl
  have eT : mr_X5_take P R = mr_X5_take_L2 5 P R (nI 0) := rfl
  have eS : ms_X5_take P R = ms_X5_take_L2 5 P R (nI 0) := rfl
  have eg : mg_X5_take P R = mg_X5_take_L2 5 P R (nI 0) := rfl
  unfold mg_X4_bus mr_X4_bus ms_X4_bus mg_X0_doNextPhase mr_X0_doNextPhase ms_X0_doNextPhase mg_X5_bus mr_X5_bus ms_X5_bus
  simp only [h0, hR0, eL, eG, eT, eS, eg]
  rcases l2 with ⟨c, -, q2, q3, q4, q5⟩ | ⟨q1, q2⟩
  · rcases k2 with ⟨c', -, r2, r3, r4, r5, r6⟩ | ⟨r1, -⟩
    · have ecc : c = c' := by
        have h1 : ¬ c < c' := fun z => q3 (by rw [(h6 c q2).2.2.2.1]; exact r4 c (Nat.zero_le _) z)
        have h2 : ¬ c' < c := fun z => r3 (by rw [← (h6 c' r2).2.2.2.1]; exact q4 c' (Nat.zero_le _) z)
        omega
      subst ecc
      have hc4 : c < 4000 := by unfold pm_P at hP; omega
      have hw : mr_X4_within P C (nI c) (nI (P 0)) = 1 := pm_win q2 (by unfold pm_P at hP; omega)
      have hv : vp_in (nI c) (P 0) := pn_in q2 (by unfold pm_P at hP; omega)
      have hpa : ∀ j, mr_X0_phaseAfter P C 0 j = 1 := fun j => by unfold mr_X0_phaseAfter; rw [if_pos rfl]
      have hpg : ∀ j, mg_X0_phaseAfter P C 0 j := fun j => by unfold mg_X0_phaseAfter; exact ⟨fun _ => trivial, fun h => absurd rfl h⟩
      have v0 : vp_in ((1 : Int32) - 1) 4 := pn_in (a := 0) (by omega) (by omega)
      have z0 : Int32.toNatClampNeg ((1 : Int32) - 1) = 0 := by decide
      have x1 : wk_up C (10, 0, 0) 5 1 (11, 0, 0) 0 = C (11, 0, 0) 0 := by simp [wk_up_at]
      simp only [q5, r5, r6, hw, pn_clamp hc4, hpa, z0, x1]
      have hE := hD.e.ph (x := 1) (y := C (11, 0, 0) 0 + 1) 0
      have num : C (4, c, 0) 0 = nI c := hD.2.1.2 c q2
      have hI' := pm_bgnI hP hI h0 hD.e q2 q3 (C (11, 0, 0) 0 + 1)
      have hcp := h6 c q2
      have hE' : pm_E P (ms_X0_begin P (wk_up (wk_up C (10, 0, 0) 5 1) (11, 0, 0) 0 (C (11, 0, 0) 0 + 1)) c) (pr_T R c) := by
        rw [pm_bgn]
        unfold pr_T
        refine ((((hE.bu (k := 6) (t := 18) (Or.inl ⟨rfl, rfl⟩) ?_).bu (k := 7) (t := 19) (Or.inr (Or.inl ⟨rfl, rfl⟩)) ?_).bu (k := 8) (t := 20) (Or.inr (Or.inr (Or.inl ⟨rfl, rfl⟩))) ?_).cp (i := c) (k := 8) (t := 27) (Or.inr (Or.inr (Or.inr (Or.inl ⟨rfl, rfl⟩)))) rfl).cp (i := c) (k := 9) (t := 28) (Or.inr (Or.inr (Or.inr (Or.inr ⟨rfl, rfl⟩)))) rfl
        · simpa [wk_up_at] using num
        · simpa [wk_up_at] using hcp.2.2.2.1
        · simpa [wk_up_at] using hcp.2.2.2.2
      obtain ⟨p1, p2, p3⟩ := pm_phase (p := 1) hE' (by omega) (by rw [pm_bgn]; simp [wk_up_at]; rfl) (fun k hk => by
        rw [pm_bgn]
        unfold pr_T
        have := hD.2.2.2.2.2.2.2.2.2.2 k hk
        by_cases e : k = 0
        · subst e
          simp [wk_up_at, this]
        · simp [wk_up_at, this, e])
      refine ⟨⟨?_, ?_, ?_⟩, ?_, ?_⟩
      · have v00 : vp_in 0 4 := pn_in (a := 0) (by omega) (by omega)
        simp [l1, hv, hpg, v00]
      · simp [k1]
      · simp only [if_true]
        exact p2.symm
      · simpa using (show pm_D P _ (ms_X5_phase P (pr_T R c) 1) from p3)
      · simpa using hI'
    · exact absurd (by rw [(h6 c q2).2.2.2.1]; exact r1 c (Nat.zero_le _) q2) q3
  · rcases k2 with ⟨c', -, r2, r3, -⟩ | ⟨-, r2, r3⟩
    · exact absurd (by rw [← (h6 c' r2).2.2.2.1]; exact q1 c' (Nat.zero_le _) r2) r3
    · have hw : mr_X4_within P C (-1) (nI (P 0)) = 0 := pm_wout (Or.inl (by decide))
      rw [q2, r2, r3, hw]
      simp [l1, k1, hD, hI]
end PMB
