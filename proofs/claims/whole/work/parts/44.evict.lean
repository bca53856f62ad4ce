/-! evict. -/
section PMV
variable {P : Nat → Nat} {C R C' : wk_Sg}
/-- the invariant when slots are emptied -/
theorem pm_I.em (h : pm_I P C) (h4 : ∀ i, i < P 0 → C' (4, i, 0) 6 = C (4, i, 0) 6 ∧ C' (4, i, 0) 8 = C (4, i, 0) 8 ∧ C' (4, i, 0) 9 = C (4, i, 0) 9) (h8 : ∀ i j, i < P 0 → j < P 1 → (C' (8, i, j) 1 = C (8, i, j) 1 ∧ C' (8, i, j) 2 = C (8, i, j) 2) ∨ (C' (8, i, j) 1 = 0 ∧ C' (8, i, j) 2 = -1)) (h10 : C' (10, 0, 0) 4 = C (10, 0, 0) 4 ∧ C' (10, 0, 0) 5 = C (10, 0, 0) 5 ∧ C' (10, 0, 0) 6 = C (10, 0, 0) 6 ∧ C' (10, 0, 0) 7 = C (10, 0, 0) 7 ∧ C' (10, 0, 0) 8 = C (10, 0, 0) 8) (hP : pm_P P) : pm_I P C' := by
  have hp1 : 0 < P 1 := by unfold pm_P at hP; omega
  have hh : ∀ i n, i < P 0 → pm_hold P C' i n → pm_hold P C i n ∧ C' (8, i, n % P 1) 1 = C (8, i, n % P 1) 1 := fun i n hi q => by
    rcases h8 i (n % P 1) hi (Nat.mod_lt _ hp1) with g | g
    · exact ⟨⟨by rw [← g.1]; exact q.1, by rw [← g.2]; exact q.2⟩, g.1⟩
    · exact absurd g.1 q.1
  obtain ⟨i1, i2, i3, i4, i5⟩ := h
  refine ⟨fun i hi => ?_, fun i hi => ?_, fun i j hi hj => ?_, ?_, fun n i i' hn hi hi' hne a1 a2 => ?_⟩
  · rw [(h4 i hi).1]; exact i1 i hi
  · rw [(h4 i hi).1, (h4 i hi).2.1, (h4 i hi).2.2]
    rcases i2 i hi with g | ⟨g1, g2, n, g3, g4, g5⟩
    · exact Or.inl g
    · exact Or.inr ⟨g1, g2, n, g3, g4, fun e q => g5 e (hh i n hi q).1⟩
  · rcases h8 i j hi hj with g | g
    · rw [g.1, g.2]; exact i3 i j hi hj
    · exact Or.inl g
  · unfold pm_i4
    rw [h10.1, h10.2.1, h10.2.2.1, h10.2.2.2.1, h10.2.2.2.2]
    rcases i4 with g | ⟨g1, g2, c, n, hc, hn, g3, g4, g5, g6, g7, g8⟩
    · exact Or.inl g
    · refine Or.inr ⟨g1, g2, c, n, hc, hn, g3, g4, by rw [(h4 c hc).1]; exact g5, by rw [(h4 c hc).2.1]; exact g6, fun e q => g7 e (hh c n hc q).1, fun e i hi hne q => ?_⟩
      obtain ⟨q1, q2⟩ := hh i n hi q
      rw [q2]
      exact g8 e i hi hne q1
  · obtain ⟨q1, q2⟩ := hh i n hi a1
    obtain ⟨q3, q4⟩ := hh i' n hi' a2
    rw [q2, q4]
    exact i5 n i i' hn hi hi' hne q1 q3
theorem pm_I.gu (hP : pm_P P) (h : pm_I P C) {i j : Nat} : pm_I P (ms_X2_giveUp P C i j) := by
  refine h.em (fun i' hi' => ?_) (fun i' j' hi' hj' => ?_) ?_ hP
  · rw [pm_guo (by simp) (by simp)]; exact ⟨rfl, rfl, rfl⟩
  · rw [pm_gu8, pm_gu8]
    by_cases e : i' = i ∧ j' = j
    · exact Or.inr ⟨by simp [e], by simp [e]⟩
    · exact Or.inl ⟨by simp [e], by simp [e]⟩
  · rw [pm_guo (by simp) (by simp)]; exact ⟨rfl, rfl, rfl, rfl, rfl⟩
theorem pm_evict (hP : pm_P P) (hD : pm_D P C R) (hI : pm_I P C) (a b : Int32) : (mg_X4_evict P C a b ∧ mg_X5_evict P R a b ∧ mr_X4_evict P C a b = mr_X5_evict P R a b) ∧ pm_D P (ms_X4_evict P C a b) (ms_X5_evict P R a b) ∧ pm_I P (ms_X4_evict P C a b) := by
  have hD' := hD
  have hP' := hP
  obtain ⟨h0, h1, ⟨c0, c1, c2, c3, c4⟩, h3, h4, h5, h6, h7, ⟨b1, b2, b3, b4, b5⟩, -⟩ := hD
  unfold pm_P at hP
  unfold mg_X4_evict mg_X5_evict mr_X4_evict mr_X5_evict ms_X4_evict ms_X5_evict mg_X4_hasSlot mr_X4_hasSlot mr_X4_hasCore
  rw [c1]
  rcases pn_cases a (P 0) (by omega) with h | ⟨i, hi, rfl⟩
  · simp [pm_wout h, pm_cout c0 h, hD', hI]
  · rcases pn_cases b (P 1) (by omega) with h | ⟨j, hj, rfl⟩
    · have hlt : ¬ b < 0 → ¬ b < nI (P 1) := fun hn => by
        rcases h with h | h
        · exact absurd h hn
        · exact Int32.not_lt.mpr h
      simp only [pm_win hi (show P 0 < 4000 by omega), pm_wout h, pm_cin c0 hi (show P 0 < 4000 by omega)]
      by_cases hb : b < 0
      · simp [hb, hD', hI, pn_in hi (show P 0 < 4000 by omega)]
      · simp [hb, hlt hb, hD', hI, pn_in hi (show P 0 < 4000 by omega)]
    · obtain ⟨g1, g2, g3⟩ := h7 i j hi hj
      have ea : (8 : Int32) * nI i + nI j = nI (8 * i + j) := by rw [pn_m8, nI_add]
      have hin : vp_in (nI (8 * i + j)) 32 := pn_in (by omega) (by omega)
      simp only [ea, pm_win hi (show P 0 < 4000 by omega), pm_win hj (show P 1 < 4000 by omega), pm_cin c0 hi (show P 0 < 4000 by omega), pn_clamp (show i < 4000 by omega), pn_clamp (show j < 4000 by omega), pn_clamp (show 8 * i + j < 4000 by omega), ← g1, ← g2, ← b1, ← b2, ← b4]
      have n1 : ¬ nI j < 0 := pn_nneg (by omega)
      have n2 : nI j < nI (P 1) := (pn_lt (by omega) (by omega)).mpr hj
      have vi : vp_in (nI i) (P 0) := pn_in hi (by omega)
      have vj : vp_in (nI j) (P 1) := pn_in hj (by omega)
      have np : ¬ nI (P 1) = 0 := pn_ne0 (by omega) (by omega)
      have last : ∀ (hs : ¬ C (8, i, j) 1 = 0), (mg_X2_giveUp P C i j ∧ ((mr_X5_isDirty P R (C (8, i, j) 1) = 0 → mg_X5_empty P R (nI (8 * i + j))) ∧ (¬ mr_X5_isDirty P R (C (8, i, j) 1) = 0 → mg_X5_writeBack P R (nI (8 * i + j)) ∧ mg_X5_empty P (ms_X5_writeBack P R (nI (8 * i + j))) (nI (8 * i + j))))) ∧ pm_D P (ms_X2_giveUp P C i j) (if mr_X5_isDirty P R (C (8, i, j) 1) = 0 then ms_X5_empty P R (nI (8 * i + j)) else ms_X5_empty P (ms_X5_writeBack P R (nI (8 * i + j))) (nI (8 * i + j))) := by
        intro hs
        rcases hI.2.2.1 i j hi hj with g | ⟨-, n, hn, hl⟩
        · exact absurd g.1 hs
        · rcases pm_dirtyR (P := P) (sg := R) (x := C (8, i, j) 1) with d | d
          · obtain ⟨q1, q2, q3, q4⟩ := pm_gu1 hP' hD' hi hj d.2 hn hl
            rw [d.1]
            exact ⟨⟨q1, fun e => absurd e (by decide), fun _ => ⟨q2, q3⟩⟩, by rw [if_neg (by decide)]; exact q4⟩
          · obtain ⟨q1, q2, q3⟩ := pm_gu0 hP' hD' hi hj d.2
            rw [d.1]
            exact ⟨⟨q1, fun _ => q2, fun e => absurd rfl e⟩, by rw [if_pos rfl]; exact q3⟩
      have g8 := hI.gu (i := i) (j := j) hP'
      have i3 := hI.2.2.1 i j hi hj
      unfold mg_X0_needs mr_X0_needs mg_X1_indexFor mr_X1_indexFor mr_X3_holds
      simp only [pn_clamp (show i < 4000 by omega), pn_clamp (show j < 4000 by omega)]
      rcases hI.2.2.2.1 with g | ⟨g, g', c, n, hc, hn, e6, e8, -⟩
      · simp only [g]
        by_cases hs : C (8, i, j) 1 = 0
        · simp [hs, n1, n2, vi, vj, hin, hD', hI]
        · obtain ⟨⟨q1, q2, q3⟩, q4⟩ := last hs
          refine ⟨?_, ?_, ?_⟩
          · simp [hs, n1, n2, vi, vj, hin, q1]
            exact ⟨q2, q3⟩
          · simpa [hs, n1, n2] using q4
          · simpa [hs, n1, n2] using g8
      · have gp : ¬ C (10, 0, 0) 5 = 0 := by rcases g with g | g | g <;> rw [g] <;> decide
        have gq : ¬ C (10, 0, 0) 5 ≤ 0 := by rcases g with g | g | g <;> rw [g] <;> decide
        rw [e6, e8, pn_rem (show n < 4000 by omega) (show P 1 < 4000 by omega) (by omega)]
        have hnm : n % P 1 < P 1 := Nat.mod_lt _ (by omega)
        by_cases hl : C (8, i, j) 2 = nI n
        · have hs : ¬ C (8, i, j) 1 = 0 := by
            rcases i3 with q | q
            · rw [q.2] at hl
              exact absurd hl (pn_neg1 (by omega))
            · exact q.1
          by_cases hci : c = i
          · subst hci
            by_cases hj2 : nI (n % P 1) = nI j
            · simp [hs, hl, hj2, gp, gq, n1, n2, vi, vj, hin, np, hD', hI]
            · simp [hs, hl, hj2, gp, gq, n1, n2, vi, vj, hin, np, hD', hI]
          · have hci2 : ¬ nI c = nI i := by rw [pn_eq (by omega) (by omega)]; exact hci
            simp [hs, hl, hci2, gp, gq, n1, n2, vi, vj, hin, np, hD', hI]
        · have hl2 : ¬ nI n = C (8, i, j) 2 := fun e => hl e.symm
          by_cases hci : c = i
          · subst hci
            by_cases hj2 : j = n % P 1
            · have hj3 : nI (n % P 1) = nI j := by rw [hj2]
              by_cases hs : C (8, c, j) 1 = 0 <;> simp [hs, hl, hl2, hj3, gp, gq, n1, n2, vi, vj, hin, np, hD', hI]
            · have hj3 : ¬ nI (n % P 1) = nI j := by rw [pn_eq (by omega) (by omega)]; omega
              have hj4 : ¬ nI j = nI (n % P 1) := fun e => hj3 e.symm
              by_cases hs : C (8, c, j) 1 = 0
              · simp [hs, hl2, hj3, hj4, gp, gq, n1, n2, vi, vj, hin, np, hD', hI]
              · obtain ⟨⟨q1, q2, q3⟩, q4⟩ := last hs
                refine ⟨?_, ?_, ?_⟩
                · simp [hs, hl, hl2, hj3, hj4, gp, gq, n1, n2, vi, vj, hin, np, q1]
                  exact ⟨q2, q3⟩
                · simpa [hs, hl, hl2, hj3, hj4, gp, gq, n1, n2] using q4
                · simpa [hs, hl, hl2, hj3, hj4, gp, gq, n1, n2] using g8
          · have hci2 : ¬ nI c = nI i := by rw [pn_eq (by omega) (by omega)]; exact hci
            have hci3 : ¬ nI i = nI c := fun e => hci2 e.symm
            by_cases hs : C (8, i, j) 1 = 0
            · simp [hs, hl2, hci2, hci3, gp, gq, n1, n2, vi, vj, hin, np, hD', hI]
            · obtain ⟨⟨q1, q2, q3⟩, q4⟩ := last hs
              refine ⟨?_, ?_, ?_⟩
              · simp [hs, hl, hl2, hci2, hci3, gp, gq, n1, n2, vi, vj, hin, np, q1]
                exact ⟨q2, q3⟩
              · simpa [hs, hl, hl2, hci2, hci3, gp, gq, n1, n2] using q4
              · simpa [hs, hl, hl2, hci2, hci3, gp, gq, n1, n2] using g8
end PMV
