/-! The reading calls, load and poke. -/
section PME
variable {P : Nat → Nat} {C R : wk_Sg}
theorem pm_memory (hP : pm_P P) (hD : pm_D P C R) (a : Int32) : mg_X4_memory P C a ∧ mg_X5_memory P R a ∧ mr_X4_memory P C a = mr_X5_memory P R a := by
  obtain ⟨h0, h1, ⟨c0, c1, c2, c3, c4⟩, h3, -⟩ := hD
  unfold pm_P at hP
  unfold mg_X4_memory mg_X5_memory mr_X4_memory mr_X5_memory mr_X2_has
  rcases pn_cases a (P 3) (by omega) with h | ⟨j, hj, rfl⟩
  · simp [pm_wout h, pm_aout c3 h]
  · simp [pm_win hj (by omega), pm_ain c3 hj (by omega), pn_clamp (show j < 4000 by omega), h3 j hj, pn_in hj (by omega), pn_in (show j < 64 by omega) (by omega)]
theorem pm_register (hP : pm_P P) (hD : pm_D P C R) (a b : Int32) : mg_X4_register P C a b ∧ mg_X5_register P R a b ∧ mr_X4_register P C a b = mr_X5_register P R a b := by
  obtain ⟨h0, h1, ⟨c0, c1, c2, c3, c4⟩, h3, h4, h5, -⟩ := hD
  unfold pm_P at hP
  unfold mg_X4_register mg_X5_register mr_X4_register mr_X5_register mr_X4_hasCore
  rw [show (4 : Int32) = nI 4 from rfl]
  rcases pn_cases a (P 0) (by omega) with h | ⟨i, hi, rfl⟩
  · simp [pm_wout h, pm_cout c0 h]
  · rcases pn_cases b 4 (by omega) with h | ⟨k, hk, rfl⟩
    · simp only [pm_win hi (show P 0 < 4000 by omega), pm_wout h, pm_cin c0 hi (by omega)]
      rcases h with h | h <;> simp [h]
    · simp [pm_win hi (show P 0 < 4000 by omega), pm_win hk (by omega), pm_cin c0 hi (by omega), pn_clamp (show i < 4000 by omega), pn_clamp (show k < 4000 by omega), pn_in hi (by omega), pn_in hk (by omega), pn_nneg (show k < 4000 by omega), pn_le (show 4 < 4000 by omega) (show k < 4000 by omega), show ¬ 4 ≤ k by omega, pn_mul, nI_add, pn_clamp (show 4 * i + k < 4000 by omega), pn_in (show 4 * i + k < 16 by omega) (by omega), h5 i k hi hk]
theorem pm_cpuq (hP : pm_P P) (hD : pm_D P C R) (a b : Int32) : mg_X4_cpu P C a b ∧ mg_X5_cpu P R a b ∧ mr_X4_cpu P C a b = mr_X5_cpu P R a b := by
  obtain ⟨h0, h1, ⟨c0, c1, c2, c3, c4⟩, h3, h4, h5, h6, -⟩ := hD
  unfold pm_P at hP
  unfold mg_X4_cpu mg_X5_cpu mr_X4_cpu mr_X5_cpu mr_X4_hasCore
  rcases pn_cases a (P 0) (by omega) with h | ⟨i, hi, rfl⟩
  · simp [pm_wout h, pm_cout c0 h]
  · obtain ⟨g1, g2, g3, g4, g5⟩ := h6 i hi
    simp [pm_win hi (show P 0 < 4000 by omega), pm_cin c0 hi (by omega), pn_clamp (show i < 4000 by omega), pn_in hi (by omega), pn_in (show i < 4 by omega) (by omega), g1, g2, g3, g4, g5]
theorem pm_slotq (hP : pm_P P) (hD : pm_D P C R) (a b w : Int32) : mg_X4_slot P C a b w ∧ mg_X5_slot P R a b w ∧ mr_X4_slot P C a b w = mr_X5_slot P R a b w := by
  obtain ⟨h0, ⟨h1, -⟩, ⟨c0, c1, c2, c3, c4⟩, h3, h4, h5, h6, h7, -⟩ := hD
  unfold pm_P at hP
  unfold mg_X4_slot mg_X5_slot mr_X4_slot mr_X5_slot mg_X4_hasSlot mr_X4_hasSlot mr_X4_hasCore
  rw [h1, c1, c2]
  rcases pn_cases a (P 0) (by omega) with h | ⟨i, hi, rfl⟩
  · simp [pm_wout h, pm_cout c0 h]
  · rcases pn_cases b (P 1) (by omega) with h | ⟨j, hj, rfl⟩
    · simp only [pm_win hi (show P 0 < 4000 by omega), pm_wout h, pm_cin c0 hi (by omega)]
      rcases h with h | h <;> simp [h, pn_in hi (show P 0 < 4000 by omega)]
    · have e2 : (2 : Int32) + nI (P 2) = nI (2 + P 2) := by rw [← nI_add]; rfl
      rw [e2]
      rcases pn_cases w (2 + P 2) (by omega) with h | ⟨k, hk, rfl⟩
      · simp only [pm_win hi (show P 0 < 4000 by omega), pm_win hj (show P 1 < 4000 by omega), pm_wout h, pm_cin c0 hi (by omega)]
        have h' : ¬ w < 0 → ¬ w < nI (2 + P 2) := fun hn => by
          rcases h with h | h
          · exact absurd h hn
          · exact Int32.not_lt.mpr h
        by_cases hw : w < 0
        · simp [hw, pn_in hi (show P 0 < 4000 by omega), pn_nneg (show j < 4000 by omega), pn_le (show P 1 < 4000 by omega) (show j < 4000 by omega), show ¬ P 1 ≤ j by omega]
        · simp [hw, h' hw, pn_in hi (show P 0 < 4000 by omega), pn_nneg (show j < 4000 by omega), pn_le (show P 1 < 4000 by omega) (show j < 4000 by omega), show ¬ P 1 ≤ j by omega]
      · obtain ⟨g1, g2, g3⟩ := h7 i j hi hj
        have ea : (8 : Int32) * nI i + nI j = nI (8 * i + j) := by rw [pn_m8, nI_add]
        rw [ea, pn_m4]
        have z0 : (nI k = 0) ↔ k = 0 := by rw [pn_0]; exact pn_eq (by omega) (by omega)
        have z1 : (nI k = 1) ↔ k = 1 := by rw [show (1 : Int32) = nI 1 from rfl]; exact pn_eq (by omega) (by omega)
        by_cases k0 : k = 0
        · simp [k0, show nI 0 = 0 from rfl, pm_win hi (show P 0 < 4000 by omega), pm_win hj (show P 1 < 4000 by omega), pm_cin c0 hi (by omega), pn_clamp (show i < 4000 by omega), pn_clamp (show j < 4000 by omega), pn_clamp (show 8 * i + j < 4000 by omega), pn_in hi (show P 0 < 4000 by omega), pn_in hj (show P 1 < 4000 by omega), pn_in (show 8 * i + j < 32 by omega) (by omega), pn_nneg (show j < 4000 by omega), pn_le (show P 1 < 4000 by omega) (show j < 4000 by omega), show ¬ P 1 ≤ j by omega, g1, (show mr_X4_within P C 0 (nI (2 + P 2)) = 1 from pm_win (j := 0) (by omega) (by omega)), (show (0 : Int32) < nI (2 + P 2) from (pn_lt (a := 0) (by omega) (by omega)).mpr (by omega))]
        · by_cases k1 : k = 1
          · simp [k1, show nI 1 = 1 from rfl, pm_win hi (show P 0 < 4000 by omega), pm_win hj (show P 1 < 4000 by omega), pm_cin c0 hi (by omega), pn_clamp (show i < 4000 by omega), pn_clamp (show j < 4000 by omega), pn_clamp (show 8 * i + j < 4000 by omega), pn_in hi (show P 0 < 4000 by omega), pn_in hj (show P 1 < 4000 by omega), pn_in (show 8 * i + j < 32 by omega) (by omega), pn_nneg (show j < 4000 by omega), pn_le (show P 1 < 4000 by omega) (show j < 4000 by omega), show ¬ P 1 ≤ j by omega, g2, (show mr_X4_within P C 1 (nI (2 + P 2)) = 1 from pm_win (j := 1) (by omega) (by omega)), (show (1 : Int32) < nI (2 + P 2) from (pn_lt (a := 1) (by omega) (by omega)).mpr (by omega)), show ¬ (1 : Int32) < 0 by decide]
          · obtain ⟨q, rfl⟩ : ∃ q, k = q + 2 := ⟨k - 2, by omega⟩
            have e1 : nI (q + 2) - 2 = nI q := by rw [← nI_add]; exact Int32.add_sub_cancel _ _
            have e3 : nI (4 * (8 * i + j)) + nI (q + 2) - 2 = nI (4 * (8 * i + j) + q) := by rw [nI_add, ← Nat.add_assoc, ← nI_add _ 2]; exact Int32.add_sub_cancel _ _
            obtain ⟨g4, g5⟩ := g3 q (by omega)
            rw [e1, e3]
            by_cases hs : C (8, i, j) 1 = 0
            · simp [hs, z0, z1, pm_win hi (show P 0 < 4000 by omega), pm_win hj (show P 1 < 4000 by omega), pm_win hk (show 2 + P 2 < 4000 by omega), pm_cin c0 hi (by omega), pn_clamp (show i < 4000 by omega), pn_clamp (show j < 4000 by omega), pn_clamp (show 4 * (8 * i + j) + q < 4000 by omega), pn_in hi (show P 0 < 4000 by omega), pn_in hj (show P 1 < 4000 by omega), pn_in (show 4 * (8 * i + j) + q < 128 by omega) (by omega), pn_nneg (show j < 4000 by omega), pn_nneg (show q + 2 < 4000 by omega), pn_lt (show q + 2 < 4000 by omega) (show 2 + P 2 < 4000 by omega), hk, pn_le (show P 1 < 4000 by omega) (show j < 4000 by omega), show ¬ P 1 ≤ j by omega, g4 hs]
            · simp [hs, z0, z1, pm_win hi (show P 0 < 4000 by omega), pm_win hj (show P 1 < 4000 by omega), pm_win hk (show 2 + P 2 < 4000 by omega), pm_cin c0 hi (by omega), pn_clamp (show i < 4000 by omega), pn_clamp (show j < 4000 by omega), pn_clamp (show q < 4000 by omega), pn_clamp (show 4 * (8 * i + j) + q < 4000 by omega), pn_in hi (show P 0 < 4000 by omega), pn_in hj (show P 1 < 4000 by omega), pn_in (show q < P 2 by omega) (by omega), pn_in (show 4 * (8 * i + j) + q < 128 by omega) (by omega), pn_nneg (show j < 4000 by omega), pn_nneg (show q + 2 < 4000 by omega), pn_lt (show q + 2 < 4000 by omega) (show 2 + P 2 < 4000 by omega), hk, pn_le (show P 1 < 4000 by omega) (show j < 4000 by omega), show ¬ P 1 ≤ j by omega, g5 hs]
theorem pm_stateq (hP : pm_P P) (hD : pm_D P C R) (a : Int32) : mg_X4_state P C a ∧ mg_X5_state P R a ∧ mr_X4_state P C a = mr_X5_state P R a := by
  obtain ⟨h0, h1, ⟨c0, c1, c2, c3, c4⟩, h3, h4, h5, h6, h7, ⟨b1, b2, b3, b4, b5⟩, h9, h10⟩ := hD
  unfold mg_X4_state mg_X5_state mr_X4_state mr_X5_state
  rcases pn_cases (a - 4) 4 (by omega) with h | ⟨j, hj, e⟩
  · have hout : a < 4 ∨ 7 < a := by
      by_cases g1 : a < 4
      · exact Or.inl g1
      · refine Or.inr (Int32.not_le.mp fun g2 => ?_)
        have g1' : (4 : Int32) ≤ a := Int32.not_lt.mp g1
        obtain ⟨j, hj, rfl⟩ := nI_of2 (x := a) (M := 7) (n := 7) (by decide) (fun q => g1 (Int32.lt_trans q (by decide))) g2
        have g3 : 4 ≤ j := (pn_le (a := 4) (by omega) (show j < 4000 by omega)).mp g1'
        obtain ⟨q, rfl⟩ : ∃ q, j = q + 4 := ⟨j - 4, by omega⟩
        have e1 : nI (q + 4) - 4 = nI q := by rw [← nI_add]; exact Int32.add_sub_cancel _ _
        rw [e1] at h
        rcases h with h | h
        · exact pn_nneg (by omega) h
        · rw [pn_le (by omega) (by omega)] at h
          omega
    have hw : mr_X4_within P C (a - 4) 4 = 0 := pm_wout (n := 4) h
    by_cases g1 : a < 4
    · simp [hw, g1, b1, b2, b3, b4]
    · have g2 := hout.resolve_left g1
      simp [hw, g1, g2, b1, b2, b3, b4]
  · have ea : a = nI (j + 4) := by rw [← nI_add, ← e]; exact (Int32.sub_add_cancel a 4).symm
    subst ea
    have e3 : nI (j + 4) - 3 = nI (j + 1) := by rw [show j + 4 = j + 1 + 3 by omega, ← nI_add _ 3]; exact Int32.add_sub_cancel _ _
    have n0 : ¬ nI (j + 4) = 0 := pn_ne0 (by omega) (by omega)
    have n1 : ¬ nI (j + 4) = 1 := by rw [show (1 : Int32) = nI 1 from rfl, pn_eq (by omega) (by omega)]; omega
    have n2 : ¬ nI (j + 4) = 2 := by rw [show (2 : Int32) = nI 2 from rfl, pn_eq (by omega) (by omega)]; omega
    have n3 : ¬ nI (j + 4) = 3 := by rw [show (3 : Int32) = nI 3 from rfl, pn_eq (by omega) (by omega)]; omega
    have l4 : ¬ nI (j + 4) < 4 := by rw [show (4 : Int32) = nI 4 from rfl, pn_lt (by omega) (by omega)]; omega
    have l7 : ¬ 7 < nI (j + 4) := by rw [show (7 : Int32) = nI 7 from rfl, pn_lt (by omega) (by omega)]; omega
    have hw : mr_X4_within P C (nI j) 4 = 1 := pm_win (n := 4) hj (by omega)
    rw [e, e3]
    simp [hw, n0, n1, n2, n3, l4, l7, pn_clamp (show j < 4000 by omega), pn_clamp (show j + 1 < 4000 by omega), pn_in hj (by omega), pn_in (show j + 1 < 5 by omega) (by omega), h10 j hj]
theorem pm_load (hP : pm_P P) (hD : pm_D P C R) (hI : pm_I P C) (a b w : Int32) : (mg_X4_load P C a b w ∧ mg_X5_load P R a b w ∧ mr_X4_load P C a b w = mr_X5_load P R a b w) ∧ pm_D P (ms_X4_load P C a b w) (ms_X5_load P R a b w) ∧ pm_I P (ms_X4_load P C a b w) := by
  have hD' := hD
  have hP' := hP
  obtain ⟨h0, h1, ⟨c0, c1, c2, c3, c4⟩, h3, h4, -⟩ := hD
  unfold pm_P at hP
  unfold mg_X4_load mg_X5_load mr_X4_load mr_X5_load ms_X4_load ms_X5_load mr_X4_hasCore
  rw [h0, c4]
  rcases pn_cases a (P 0) (by omega) with h | ⟨i, hi, rfl⟩
  · simp [pm_wout h, pm_cout c0 h, hD', hI]
  · rcases pn_cases b (P 4) (by omega) with h | ⟨k, hk, rfl⟩
    · simp only [pm_win hi (show P 0 < 4000 by omega), pm_wout h, pm_cin c0 hi (by omega)]
      by_cases hs : R (20, 0, 0) 7 = 0 <;> rcases h with h | h <;> simp [hs, h, hD', hI, pn_in hi (show P 0 < 4000 by omega)]
    · simp only [pm_win hi (show P 0 < 4000 by omega), pm_win hk (show P 4 < 4000 by omega), pm_cin c0 hi (show P 0 < 4000 by omega), pn_m32, nI_add]
      by_cases hs : R (20, 0, 0) 7 = 0
      · simp only [hs, pn_nneg (show k < 4000 by omega), pn_le (show P 4 < 4000 by omega) (show k < 4000 by omega), show ¬ P 4 ≤ k by omega, pn_clamp (show i < 4000 by omega), pn_clamp (show k < 4000 by omega), pn_clamp (show 32 * i + k < 4000 by omega), pn_in hi (show P 0 < 4000 by omega), pn_in hk (show P 4 < 4000 by omega), pn_in (show 32 * i + k < 128 by omega) (by omega)]
        refine ⟨by simp, ?_, ?_⟩
        · simpa using hD'.co hP' hi hk rfl
        · refine hI.cg (fun i hi => ?_) (fun i j hi hj => ?_) ?_ hP' <;> simp [wk_up_at]
      · simp [hs, hD', hI, pn_in hi (show P 0 < 4000 by omega), pn_nneg (show k < 4000 by omega)]
theorem pm_poke (hP : pm_P P) (hD : pm_D P C R) (hI : pm_I P C) (a w : Int32) : (mg_X4_poke P C a w ∧ mg_X5_poke P R a w ∧ mr_X4_poke P C a w = mr_X5_poke P R a w) ∧ pm_D P (ms_X4_poke P C a w) (ms_X5_poke P R a w) ∧ pm_I P (ms_X4_poke P C a w) := by
  have hD' := hD
  have hP' := hP
  obtain ⟨h0, h1, ⟨c0, c1, c2, c3, c4⟩, h3, h4, -⟩ := hD
  unfold pm_P at hP
  unfold mg_X4_poke mg_X5_poke mr_X4_poke mr_X5_poke ms_X4_poke ms_X5_poke mr_X2_has
  rw [h0]
  rcases pn_cases a (P 3) (by omega) with h | ⟨i, hi, rfl⟩
  · simp [pm_wout h, pm_aout c3 h, hD', hI]
  · by_cases hs : R (20, 0, 0) 7 = 0
    · simp only [hs, pm_win hi (show P 3 < 4000 by omega), pm_ain c3 hi (show P 3 < 4000 by omega), pn_clamp (show i < 4000 by omega), pn_in hi (show P 3 < 4000 by omega), pn_in (show i < 64 by omega) (by omega)]
      refine ⟨by simp, ?_, ?_⟩
      · simpa using hD'.me rfl
      · refine hI.cg (fun i hi => ?_) (fun i j hi hj => ?_) ?_ hP' <;> simp [wk_up_at]
    · simp [hs, hD', hI, pm_ain c3 hi (show P 3 < 4000 by omega)]
end PME
