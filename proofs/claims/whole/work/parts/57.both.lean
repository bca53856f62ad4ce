/-! Both sides in one: a call of the component, then the same call of the reference. -/
section PMZ
variable {P : Nat → Nat} {C R C' R' sg : wk_Sg}
theorem pm_D.r (h : pm_D P C R) (hR : ∀ κ : wk_K3, 20 ≤ κ.1 → R' κ = R κ) : pm_D P C R' := by
  obtain ⟨h0, h1, h2, h3, h4, h5, h6, h7, h8, h9, h10⟩ := h
  have e : ∀ t, 20 ≤ t → R' (t, 0, 0) = R (t, 0, 0) := fun t ht => hR (t, 0, 0) ht
  refine ⟨by rw [e 20 (by omega)]; exact h0, h1, by unfold pm_c2; rw [e 20 (by omega)]; exact h2, fun a ha => by rw [e 21 (by omega)]; exact h3 a ha, fun i p hi hp => by rw [e 22 (by omega)]; exact h4 i p hi hp, fun i k hi hk => by rw [e 23 (by omega)]; exact h5 i k hi hk, fun i hi => by rw [e 24 (by omega), e 25 (by omega), e 26 (by omega), e 27 (by omega), e 28 (by omega)]; exact h6 i hi, fun i j hi hj => by rw [e 29 (by omega), e 30 (by omega), e 31 (by omega)]; exact h7 i j hi hj, by unfold pm_bus; rw [e 20 (by omega)]; exact h8, fun k hk => by rw [e 32 (by omega)]; exact h9 k hk, fun k hk => by rw [e 33 (by omega)]; exact h10 k hk⟩
theorem pm_D.c (h : pm_D P C R) (hC : ∀ κ : wk_K3, κ.1 < 20 → C' κ = C κ) : pm_D P C' R := by
  obtain ⟨h0, ⟨h1a, h1b⟩, h2, h3, h4, h5, h6, h7, h8, h9, h10⟩ := h
  have e : ∀ t i j, t < 20 → C' (t, i, j) = C (t, i, j) := fun t i j ht => hC (t, i, j) ht
  refine ⟨by rw [e 0 0 0 (by omega)]; exact h0, ⟨by rw [e 1 0 0 (by omega)]; exact h1a, fun i hi => by rw [e 4 i 0 (by omega)]; exact h1b i hi⟩, h2, fun a ha => by rw [e 2 0 0 (by omega)]; exact h3 a ha, fun i p hi hp => by rw [e 5 i 0 (by omega)]; exact h4 i p hi hp, fun i k hi hk => by rw [e 6 i 0 (by omega)]; exact h5 i k hi hk, fun i hi => by rw [e 4 i 0 (by omega)]; exact h6 i hi, fun i j hi hj => by rw [e 8 i j (by omega), e 9 i j (by omega)]; exact h7 i j hi hj, by unfold pm_bus; rw [e 10 0 0 (by omega)]; exact h8, fun k hk => by rw [e 12 0 0 (by omega)]; exact h9 k hk, fun k hk => by rw [e 11 0 0 (by omega)]; exact h10 k hk⟩
theorem pm_I.c (hP : pm_P P) (h : pm_I P C) (hC : ∀ κ : wk_K3, κ.1 < 20 → C' κ = C κ) : pm_I P C' := by
  have e : ∀ t i j, t < 20 → C' (t, i, j) = C (t, i, j) := fun t i j ht => hC (t, i, j) ht
  refine h.cg (fun i hi => ?_) (fun i j hi hj => ?_) ?_ hP
  · rw [e 4 i 0 (by omega)]; exact ⟨rfl, rfl, rfl⟩
  · rw [e 8 i j (by omega)]; exact ⟨rfl, rfl⟩
  · rw [e 10 0 0 (by omega)]; exact ⟨rfl, rfl, rfl, rfl, rfl⟩
def pm_R (P : Nat → Nat) (sg : wk_Sg) : Prop := pm_P P ∧ pm_D P sg sg ∧ pm_I P sg
theorem pw_load (h : pm_R P sg) (a b w : Int32) : mg_X4_load P sg a b w ∧ mg_X5_load P (ms_X4_load P sg a b w) a b w ∧ mr_X4_load P sg a b w = mr_X5_load P (ms_X4_load P sg a b w) a b w ∧ pm_R P (ms_X5_load P (ms_X4_load P sg a b w) a b w) := by
  obtain ⟨hP, hD, hI⟩ := h
  have hD1 : pm_D P sg (ms_X4_load P sg a b w) := hD.r (fun κ hκ => mf_X4_load (h := hκ) ..)
  obtain ⟨⟨q1, q2, q3⟩, q4, q5⟩ := pm_load hP hD1 hI a b w
  have hf : ∀ κ : wk_K3, κ.1 < 20 → ms_X5_load P (ms_X4_load P sg a b w) a b w κ = (ms_X4_load P sg a b w) κ := fun κ hκ => mf_X5_load (h := hκ) ..
  exact ⟨q1, q2, q3, hP, q4.c hf, q5.c hP hf⟩
theorem pw_poke (h : pm_R P sg) (a w : Int32) : mg_X4_poke P sg a w ∧ mg_X5_poke P (ms_X4_poke P sg a w) a w ∧ mr_X4_poke P sg a w = mr_X5_poke P (ms_X4_poke P sg a w) a w ∧ pm_R P (ms_X5_poke P (ms_X4_poke P sg a w) a w) := by
  obtain ⟨hP, hD, hI⟩ := h
  have hD1 : pm_D P sg (ms_X4_poke P sg a w) := hD.r (fun κ hκ => mf_X4_poke (h := hκ) ..)
  obtain ⟨⟨q1, q2, q3⟩, q4, q5⟩ := pm_poke hP hD1 hI a w
  have hf : ∀ κ : wk_K3, κ.1 < 20 → ms_X5_poke P (ms_X4_poke P sg a w) a w κ = (ms_X4_poke P sg a w) κ := fun κ hκ => mf_X5_poke (h := hκ) ..
  exact ⟨q1, q2, q3, hP, q4.c hf, q5.c hP hf⟩
theorem pw_step (h : pm_R P sg) (a : Int32) : mg_X4_step P sg a ∧ mg_X5_step P (ms_X4_step P sg a) a ∧ mr_X4_step P sg a = mr_X5_step P (ms_X4_step P sg a) a ∧ pm_R P (ms_X5_step P (ms_X4_step P sg a) a) := by
  obtain ⟨hP, hD, hI⟩ := h
  have hD1 : pm_D P sg (ms_X4_step P sg a) := hD.r (fun κ hκ => mf_X4_step (h := hκ) ..)
  obtain ⟨⟨q1, q2, q3⟩, q4, q5⟩ := pm_step hP hD1 hI a
  have hf : ∀ κ : wk_K3, κ.1 < 20 → ms_X5_step P (ms_X4_step P sg a) a κ = (ms_X4_step P sg a) κ := fun κ hκ => mf_X5_step (h := hκ) ..
  exact ⟨q1, q2, q3, hP, q4.c hf, q5.c hP hf⟩
theorem pw_bus (h : pm_R P sg) : mg_X4_bus P sg  ∧ mg_X5_bus P (ms_X4_bus P sg )  ∧ mr_X4_bus P sg  = mr_X5_bus P (ms_X4_bus P sg )  ∧ pm_R P (ms_X5_bus P (ms_X4_bus P sg ) ) := by
  obtain ⟨hP, hD, hI⟩ := h
  have hD1 : pm_D P sg (ms_X4_bus P sg ) := hD.r (fun κ hκ => mf_X4_bus (h := hκ) ..)
  obtain ⟨⟨q1, q2, q3⟩, q4, q5⟩ := pm_bus_ hP hD1 hI 
  have hf : ∀ κ : wk_K3, κ.1 < 20 → ms_X5_bus P (ms_X4_bus P sg )  κ = (ms_X4_bus P sg ) κ := fun κ hκ => mf_X5_bus (h := hκ) ..
  exact ⟨q1, q2, q3, hP, q4.c hf, q5.c hP hf⟩
theorem pw_evict (h : pm_R P sg) (a b : Int32) : mg_X4_evict P sg a b ∧ mg_X5_evict P (ms_X4_evict P sg a b) a b ∧ mr_X4_evict P sg a b = mr_X5_evict P (ms_X4_evict P sg a b) a b ∧ pm_R P (ms_X5_evict P (ms_X4_evict P sg a b) a b) := by
  obtain ⟨hP, hD, hI⟩ := h
  have hD1 : pm_D P sg (ms_X4_evict P sg a b) := hD.r (fun κ hκ => mf_X4_evict (h := hκ) ..)
  obtain ⟨⟨q1, q2, q3⟩, q4, q5⟩ := pm_evict hP hD1 hI a b
  have hf : ∀ κ : wk_K3, κ.1 < 20 → ms_X5_evict P (ms_X4_evict P sg a b) a b κ = (ms_X4_evict P sg a b) κ := fun κ hκ => mf_X5_evict (h := hκ) ..
  exact ⟨q1, q2, q3, hP, q4.c hf, q5.c hP hf⟩
theorem pw_register (h : pm_R P sg) (a b : Int32) : mg_X4_register P sg a b ∧ mg_X5_register P sg a b ∧ mr_X4_register P sg a b = mr_X5_register P sg a b := pm_register h.1 h.2.1 a b
theorem pw_cpu (h : pm_R P sg) (a b : Int32) : mg_X4_cpu P sg a b ∧ mg_X5_cpu P sg a b ∧ mr_X4_cpu P sg a b = mr_X5_cpu P sg a b := pm_cpuq h.1 h.2.1 a b
theorem pw_slot (h : pm_R P sg) (a b w : Int32) : mg_X4_slot P sg a b w ∧ mg_X5_slot P sg a b w ∧ mr_X4_slot P sg a b w = mr_X5_slot P sg a b w := pm_slotq h.1 h.2.1 a b w
theorem pw_peek (h : pm_R P sg) (a : Int32) : mg_X4_peek P sg a ∧ mg_X5_peek P sg a ∧ mr_X4_peek P sg a = mr_X5_peek P sg a := pm_peek h.1 h.2.1 h.2.2 a
theorem pw_memory (h : pm_R P sg) (a : Int32) : mg_X4_memory P sg a ∧ mg_X5_memory P sg a ∧ mr_X4_memory P sg a = mr_X5_memory P sg a := pm_memory h.1 h.2.1 a
theorem pw_state (h : pm_R P sg) (a : Int32) : mg_X4_state P sg a ∧ mg_X5_state P sg a ∧ mr_X4_state P sg a = mr_X5_state P sg a := pm_stateq h.1 h.2.1 a
end PMZ
