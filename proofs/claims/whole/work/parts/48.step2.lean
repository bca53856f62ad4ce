/-! step. -/
section PMW
variable {P : Nat → Nat} {C R : wk_Sg}
/-- what an instruction does, on both sides; T: the reference's answer -/
def pm_po (P : Nat → Nat) (C R : wk_Sg) (i : Nat) (r : Int32) : Prop := pm_D P C R ∧ pm_I P C ∧ pm_ans C i = r
set_option maxHeartbeats 4000000 in
theorem pm_step1 (hP : pm_P P) (hD : pm_D P C R) (hI : pm_I P C) {i p : Nat} (hi : i < P 0) (hr : C (4, i, 0) 6 = 0) (hp : p < P 4) (hpl : C (4, i, 0) 5 = nI p) {kA kB kC : Nat} {w : Int32} (hA : (w >>> ((4 : Int32) &&& 31)) &&& 3 = nI kA) (hkA : kA < 4) (hB : (w >>> ((6 : Int32) &&& 31)) &&& 3 = nI kB) (hkB : kB < 4) (hC : (w >>> ((8 : Int32) &&& 31)) &&& 3 = nI kC) (hkC : kC < 4) :
    mg_X1_tryInstruction P C i w ∧
    ((w &&& 15 = 0 → pm_po P (ms_X1_tryInstruction P C i w) (ms_X5_done P (wk_up R (25, 0, 0) i 2) (nI i) (nI p + 1)) i 3) ∧
    (w &&& 15 = 1 → pm_po P (ms_X1_tryInstruction P C i w) (ms_X5_done P (wk_up R (23, 0, 0) (4 * i + kA) (w >>> ((10 : Int32) &&& 31))) (nI i) (nI p + 1)) i 1) ∧
    (w &&& 15 = 2 → pm_po P (ms_X1_tryInstruction P C i w) (ms_X5_done P (wk_up R (23, 0, 0) (4 * i + kA) (C (6, i, 0) kB + C (6, i, 0) kC)) (nI i) (nI p + 1)) i 1) ∧
    (w &&& 15 = 3 → pm_po P (ms_X1_tryInstruction P C i w) (ms_X5_done P (wk_up R (23, 0, 0) (4 * i + kA) (C (6, i, 0) kB - C (6, i, 0) kC)) (nI i) (nI p + 1)) i 1) ∧
    (w &&& 15 = 4 → pm_po P (ms_X1_tryInstruction P C i w) (ms_X5_done P (wk_up R (23, 0, 0) (4 * i + kA) (C (6, i, 0) kB * C (6, i, 0) kC)) (nI i) (nI p + 1)) i 1) ∧
    (w &&& 15 = 5 → pm_po P (ms_X1_tryInstruction P C i w) (ms_X5_done P (wk_up R (23, 0, 0) (4 * i + kA) (C (6, i, 0) kB + (w >>> ((10 : Int32) &&& 31)))) (nI i) (nI p + 1)) i 1) ∧
    (w &&& 15 = 6 → pm_po P (ms_X1_tryInstruction P C i w) (ms_X5_done P (wk_up R (23, 0, 0) (4 * i + kA) (nI i)) (nI i) (nI p + 1)) i 1) ∧
    (w &&& 15 = 7 → C (6, i, 0) kA = 0 → pm_po P (ms_X1_tryInstruction P C i w) (ms_X5_done P R (nI i) (w >>> ((10 : Int32) &&& 31))) i 1) ∧
    (w &&& 15 = 7 → ¬ C (6, i, 0) kA = 0 → pm_po P (ms_X1_tryInstruction P C i w) (ms_X5_done P R (nI i) (nI p + 1)) i 1) ∧
    (w &&& 15 = 8 → pm_po P (ms_X1_tryInstruction P C i w) (ms_X5_done P R (nI i) (w >>> ((10 : Int32) &&& 31))) i 1) ∧
    (w &&& 15 = 9 ∨ w &&& 15 = 10 ∨ w &&& 15 = 11 → mg_X5_move P R (nI i) (w &&& 15) (nI kA) (C (6, i, 0) kC) (C (6, i, 0) kB + (w >>> ((10 : Int32) &&& 31))) ∧ pm_po P (ms_X1_tryInstruction P C i w) (ms_X5_move P R (nI i) (w &&& 15) (nI kA) (C (6, i, 0) kC) (C (6, i, 0) kB + (w >>> ((10 : Int32) &&& 31)))) i (mr_X5_move P R (nI i) (w &&& 15) (nI kA) (C (6, i, 0) kC) (C (6, i, 0) kB + (w >>> ((10 : Int32) &&& 31))))) ∧
    (¬ w &&& 15 = 0 → ¬ w &&& 15 = 1 → ¬ w &&& 15 = 2 → ¬ w &&& 15 = 3 → ¬ w &&& 15 = 4 → ¬ w &&& 15 = 5 → ¬ w &&& 15 = 6 → ¬ w &&& 15 = 7 → ¬ w &&& 15 = 8 → ¬ w &&& 15 = 9 → ¬ w &&& 15 = 10 → ¬ w &&& 15 = 11 → pm_po P (ms_X1_tryInstruction P C i w) (ms_X5_trap P R (nI i)) i 4)) := by
  have hi4 : i < 4000 := by unfold pm_P at hP; omega
  have vA : vp_in (nI kA) 4 := pn_in hkA (by omega)
  have vB : vp_in (nI kB) 4 := pn_in hkB (by omega)
  have vC : vp_in (nI kC) 4 := pn_in hkC (by omega)
  have an : ∀ r : Int32, mg_X1_answer P C i w r := fun r => (pm_answ hA hkA r).1
  have mv : ∀ (a : Int32) (op : Int32), w &&& 15 = op → (op = 9 ∨ op = 10 ∨ op = 11) → _ := fun a op h1 h2 => pm_move hP hD hI (a := a) hi hr hA hkA hC hkC h1 h2
  have dn : ∀ (r : Int32), pm_D P (ms_X1_answer P C i w r) (ms_X5_done P (wk_up R (23, 0, 0) (4 * i + kA) r) (nI i) (nI p + 1)) ∧ pm_I P (ms_X1_answer P C i w r) ∧ pm_ans (ms_X1_answer P C i w r) i = 1 := fun r => pm_doneA hP hD hI hi hr hA hkA rfl hpl
  have fn : ∀ (x : Int32), pm_po P (ms_X1_finish P C i x) (ms_X5_done P R (nI i) x) i 1 := fun x => ⟨pm_fin hP hD hi x, pm_finI hP hI x, pm_ans0 (by rw [pm_fin6]; exact hr)⟩
  have num : C (4, i, 0) 0 = nI i := hD.2.1.2 i hi
  unfold mg_X1_tryInstruction ms_X1_tryInstruction mr_X1_operation mr_X1_fieldA mr_X1_fieldB mr_X1_fieldC mr_X1_fieldN
  simp only [hA, hB, hC, pn_clamp (show kA < 4000 by omega), pn_clamp (show kB < 4000 by omega), pn_clamp (show kC < 4000 by omega)]
  refine ⟨⟨vA, vB, vC, ?_⟩, ?_, ?_, ?_, ?_, ?_, ?_, ?_, ?_, ?_, ?_, ?_, ?_⟩
  · by_cases h9 : w &&& 15 = 9
    · simp [h9, (mv (C (6, i, 0) kB + w >>> ((10 : Int32) &&& 31)) 9 h9 (Or.inl rfl)).1.1]
    · by_cases h10 : w &&& 15 = 10
      · simp [h10, (mv (C (6, i, 0) kB + w >>> ((10 : Int32) &&& 31)) 10 h10 (Or.inr (Or.inl rfl))).1.1]
      · by_cases h11 : w &&& 15 = 11
        · simp [h11, (mv (C (6, i, 0) kB + w >>> ((10 : Int32) &&& 31)) 11 h11 (Or.inr (Or.inr rfl))).1.1]
        · simp [h9, h10, h11, an]
  · intro h
    have d2 := hD.cp (i := i) (k := 6) (t := 25) (x := 2) (Or.inr (Or.inl ⟨rfl, rfl⟩)) rfl
    have q : pm_po P (ms_X1_finish P (wk_up C (4, i, 0) 6 2) i (nI p + 1)) (ms_X5_done P (wk_up R (25, 0, 0) i 2) (nI i) (nI p + 1)) i 3 := by
      refine ⟨pm_fin hP d2 hi _, pm_finI hP (hI.stt hi hr (by simp)) _, ?_⟩
      unfold pm_ans
      rw [pm_fin6]
      simp [wk_up_at]
    simpa [h, wk_up_at, hpl] using q
  · intro h; simpa [h, pm_po] using dn _
  · intro h; simpa [h, pm_po] using dn _
  · intro h; simpa [h, pm_po] using dn _
  · intro h; simpa [h, pm_po] using dn _
  · intro h; simpa [h, pm_po] using dn _
  · intro h; simpa [h, pm_po, num] using dn (nI i)
  · intro h h2; simpa [h, h2] using fn _
  · intro h h2; simpa [h, h2, hpl] using fn (nI p + 1)
  · intro h; simpa [h] using fn _
  · intro h
    rcases h with h | h | h
    · obtain ⟨⟨q1, q2⟩, q3⟩ := mv (C (6, i, 0) kB + w >>> ((10 : Int32) &&& 31)) 9 h (Or.inl rfl)
      simpa [h, pm_po] using ⟨q2, q3⟩
    · obtain ⟨⟨q1, q2⟩, q3⟩ := mv (C (6, i, 0) kB + w >>> ((10 : Int32) &&& 31)) 10 h (Or.inr (Or.inl rfl))
      simpa [h, pm_po] using ⟨q2, q3⟩
    · obtain ⟨⟨q1, q2⟩, q3⟩ := mv (C (6, i, 0) kB + w >>> ((10 : Int32) &&& 31)) 11 h (Or.inr (Or.inr rfl))
      simpa [h, pm_po] using ⟨q2, q3⟩
  · intro n0 n1 n2 n3 n4 n5 n6 n7 n8 n9 n10 n11
    have q : pm_po P (wk_up C (4, i, 0) 6 3) (ms_X5_trap P R (nI i)) i 4 := by
      refine ⟨?_, hI.stt hi hr (by simp), by simp [pm_ans, wk_up_at]⟩
      unfold ms_X5_trap
      rw [pn_clamp hi4]
      exact hD.cp (Or.inr (Or.inl ⟨rfl, rfl⟩)) rfl
    simpa [n0, n1, n2, n3, n4, n5, n6, n7, n8, n9, n10, n11] using q
set_option maxHeartbeats 4000000 in
theorem pm_step (hP : pm_P P) (hD : pm_D P C R) (hI : pm_I P C) (a : Int32) : (mg_X4_step P C a ∧ mg_X5_step P R a ∧ mr_X4_step P C a = mr_X5_step P R a) ∧ pm_D P (ms_X4_step P C a) (ms_X5_step P R a) ∧ pm_I P (ms_X4_step P C a) := by
  have hP' := hP
  have c0 : R (20, 0, 0) 0 = nI (P 0) := hD.2.2.1.1
  unfold pm_P at hP
  unfold mg_X4_step mg_X5_step mr_X4_step mr_X5_step ms_X4_step ms_X5_step mr_X4_hasCore
  rcases pn_cases a (P 0) (by omega) with h | ⟨i, hi, rfl⟩
  · simp [pm_wout h, pm_cout c0 h, hD, hI]
  · have hw := pm_win (P := P) (sg := C) hi (by omega)
    have hc := pm_cin (P := P) c0 hi (by omega)
    have hD1 := hD.st (x := 1) rfl
    have hI1 : pm_I P (wk_up C (0, 0, 0) 3 1) := by
      refine hI.cg (fun i hi => ?_) (fun i j hi hj => ?_) ?_ hP' <;> simp [wk_up_at]
    rw [hw, hc]
    clear hw hc
    generalize wk_up C (0, 0, 0) 3 1 = C1 at hD1 hI1 ⊢
    generalize wk_up R (20, 0, 0) 7 1 = R1 at hD1 hI1 ⊢
    obtain ⟨e1, e2, e3, e4, e5⟩ := hD1.2.2.2.2.2.2.1 i hi
    have c4 : R1 (20, 0, 0) 4 = nI (P 4) := hD1.2.2.1.2.2.2.2
    have v4 : vp_in (nI i) 4 := pn_in (by omega) (by omega)
    have vi : vp_in (nI i) (P 0) := pn_in hi (by omega)
    have hi4 : i < 4000 := by omega
    simp only [pn_clamp hi4, ← e1, ← e2, c4]
    unfold mg_X1_goOn ms_X1_goOn
    by_cases hr : C1 (4, i, 0) 6 = 0
    · rcases pn_cases (C1 (4, i, 0) 5) (P 4) (by omega) with h | ⟨p, hp, hpl⟩
      · have hz := pm_wout (P := P) (sg := C1) h
        have hlt : ¬ C1 (4, i, 0) 5 < 0 → ¬ C1 (4, i, 0) 5 < nI (P 4) := fun hn => by
          rcases h with h | h
          · exact absurd h hn
          · exact Int32.not_lt.mpr h
        have q1 : pm_D P (wk_up C1 (4, i, 0) 6 3) (ms_X5_trap P R1 (nI i)) := by
          unfold ms_X5_trap
          rw [pn_clamp hi4]
          exact hD1.cp (Or.inr (Or.inl ⟨rfl, rfl⟩)) rfl
        have q2 : pm_I P (wk_up C1 (4, i, 0) 6 3) := hI1.stt hi hr (by simp)
        have tg := pm_trapg (P := P) (R := R1) hP' hi
        by_cases hn : C1 (4, i, 0) 5 < 0
        · simp [hr, hz, hn, vi, v4, tg, q1, q2, wk_up_at, mr_X5_trap]
        · simp [hr, hz, hn, hlt hn, vi, v4, tg, q1, q2, wk_up_at, mr_X5_trap]
      · have hz : mr_X4_within P C1 (C1 (4, i, 0) 5) (nI (P 4)) = 1 := by rw [hpl]; exact pm_win hp (by omega)
        have e32 : (32 : Int32) * nI i + nI p = nI (32 * i + p) := by rw [pn_m32, nI_add]
        have ecode : R1 (22, 0, 0) (32 * i + p) = C1 (5, i, 0) p := (hD1.2.2.2.2.1 i p hi hp).symm
        have v128 : vp_in (nI (32 * i + p)) 128 := pn_in (by omega) (by omega)
        have vp : vp_in (nI p) (P 4) := pn_in hp (by omega)
        have nlt : ¬ nI p < 0 := pn_nneg (by omega)
        have plt : nI p < nI (P 4) := (pn_lt (by omega) (by omega)).mpr hp
        simp only [hr, hpl, e32, pn_clamp (show 32 * i + p < 4000 by omega), pn_clamp (show p < 4000 by omega), ecode] at hz ⊢
        generalize C1 (5, i, 0) p = w
        obtain ⟨kA, hkA, hA⟩ := pn_and3 (w >>> ((4 : Int32) &&& 31))
        obtain ⟨kB, hkB, hB⟩ := pn_and3 (w >>> ((6 : Int32) &&& 31))
        obtain ⟨kC, hkC, hC⟩ := pn_and3 (w >>> ((8 : Int32) &&& 31))
        have m : ∀ k, (4 : Int32) * nI i + nI k = nI (4 * i + k) := fun k => by rw [pn_m4, nI_add]
        have rA : R1 (23, 0, 0) (4 * i + kA) = C1 (6, i, 0) kA := (hD1.2.2.2.2.2.1 i kA hi hkA).symm
        have rB : R1 (23, 0, 0) (4 * i + kB) = C1 (6, i, 0) kB := (hD1.2.2.2.2.2.1 i kB hi hkB).symm
        have rC : R1 (23, 0, 0) (4 * i + kC) = C1 (6, i, 0) kC := (hD1.2.2.2.2.2.1 i kC hi hkC).symm
        have w16 : ∀ k, k < 4 → vp_in (nI (4 * i + k)) 16 := fun k hk => pn_in (by omega) (by omega)
        simp only [hA, hB, hC, m, pn_clamp (show 4 * i + kA < 4000 by omega), pn_clamp (show 4 * i + kB < 4000 by omega), pn_clamp (show 4 * i + kC < 4000 by omega), rA, rB, rC]
        obtain ⟨gC, t0, t1, t2, t3, t4, t5, t6, t7, t7', t8, t9, t12⟩ := pm_step1 hP' hD1 hI1 hi hr hp hpl hA hkA hB hkB hC hkC
        generalize ms_X1_tryInstruction P C1 i w = C2 at t0 t1 t2 t3 t4 t5 t6 t7 t7' t8 t9 t12 ⊢
        have fg : ∀ (R0 : wk_Sg) (x : Int32), mg_X5_done P R0 (nI i) x := fun R0 x => pm_fing hP' hi x
        have tg := pm_trapg (P := P) (R := R1) hP' hi
        have wA := w16 kA hkA
        have wB := w16 kB hkB
        have wC := w16 kC hkC
        have fin : ∀ (R2 : wk_Sg) (r : Int32), pm_po P C2 R2 i r → ((if C2 (4, i, 0) 6 = 1 then (2 : Int32) else if C2 (4, i, 0) 6 = 2 then 3 else if C2 (4, i, 0) 6 = 3 then 4 else 1) = r) ∧ pm_D P (if C2 (4, i, 0) 6 = 1 then C2 else if C2 (4, i, 0) 6 = 2 then C2 else if C2 (4, i, 0) 6 = 3 then C2 else C2) R2 ∧ pm_I P (if C2 (4, i, 0) 6 = 1 then C2 else if C2 (4, i, 0) 6 = 2 then C2 else if C2 (4, i, 0) 6 = 3 then C2 else C2) := by
          intro R2 r h
          obtain ⟨h1, h2, h3⟩ := h
          refine ⟨h3, ?_, ?_⟩ <;> repeat' split
          all_goals first | exact h1 | exact h2
        have gl : ∀ (Z : Prop) (r : Int32) (R2 : wk_Sg), Z → pm_po P C2 R2 i r → (Z ∧ (if C2 (4, i, 0) 6 = 1 then (2 : Int32) else if C2 (4, i, 0) 6 = 2 then 3 else if C2 (4, i, 0) 6 = 3 then 4 else 1) = r) ∧ pm_D P (if C2 (4, i, 0) 6 = 1 then C2 else if C2 (4, i, 0) 6 = 2 then C2 else if C2 (4, i, 0) 6 = 3 then C2 else C2) R2 ∧ pm_I P (if C2 (4, i, 0) 6 = 1 then C2 else if C2 (4, i, 0) 6 = 2 then C2 else if C2 (4, i, 0) 6 = 3 then C2 else C2) := by
          intro Z r R2 hZ h
          obtain ⟨q1, q2, q3⟩ := fin R2 r h
          exact ⟨⟨hZ, q1⟩, q2, q3⟩
        by_cases h0 : w &&& 15 = 0
        · simpa [h0, hz, nlt, plt, vi, v4, v128, vp, wB, wC, fg, gC, and_assoc] using fin _ _ (t0 h0)
        · by_cases h1 : w &&& 15 = 1
          · simpa [h1, hz, nlt, plt, vi, v4, v128, vp, wA, wB, wC, fg, gC, and_assoc, mr_X5_done] using fin _ _ (t1 h1)
          · by_cases h2 : w &&& 15 = 2
            · simpa [h2, hz, nlt, plt, vi, v4, v128, vp, wA, wB, wC, fg, gC, and_assoc, mr_X5_done] using fin _ _ (t2 h2)
            · by_cases h3 : w &&& 15 = 3
              · simpa [h3, hz, nlt, plt, vi, v4, v128, vp, wA, wB, wC, fg, gC, and_assoc, mr_X5_done] using fin _ _ (t3 h3)
              · by_cases h4 : w &&& 15 = 4
                · simpa [h4, hz, nlt, plt, vi, v4, v128, vp, wA, wB, wC, fg, gC, and_assoc, mr_X5_done] using fin _ _ (t4 h4)
                · by_cases h5 : w &&& 15 = 5
                  · simpa [h5, hz, nlt, plt, vi, v4, v128, vp, wA, wB, wC, fg, gC, and_assoc, mr_X5_done] using fin _ _ (t5 h5)
                  · by_cases h6 : w &&& 15 = 6
                    · simpa [h6, hz, nlt, plt, vi, v4, v128, vp, wA, wB, wC, fg, gC, and_assoc, mr_X5_done] using fin _ _ (t6 h6)
                    · by_cases h7 : w &&& 15 = 7
                      · by_cases hz0 : C1 (6, i, 0) kA = 0
                        · simpa [h7, hz0, hz, nlt, plt, vi, v4, v128, vp, wA, wB, wC, fg, gC, and_assoc, mr_X5_done] using fin _ _ (t7 h7 hz0)
                        · simpa [h7, hz0, hz, nlt, plt, vi, v4, v128, vp, wA, wB, wC, fg, gC, and_assoc, mr_X5_done] using fin _ _ (t7' h7 hz0)
                      · by_cases h8 : w &&& 15 = 8
                        · simpa [h8, hz, nlt, plt, vi, v4, v128, vp, wA, wB, wC, fg, gC, and_assoc, mr_X5_done] using fin _ _ (t8 h8)
                        · by_cases h9 : w &&& 15 = 9
                          · obtain ⟨k1, k2⟩ := t9 (Or.inl h9)
                            rw [h9] at k1 k2
                            simpa [h9, hz, nlt, plt, vi, v4, v128, vp, wA, wB, wC, k1, gC, and_assoc] using fin _ _ k2
                          · by_cases h10 : w &&& 15 = 10
                            · obtain ⟨k1, k2⟩ := t9 (Or.inr (Or.inl h10))
                              rw [h10] at k1 k2
                              simpa [h10, hz, nlt, plt, vi, v4, v128, vp, wA, wB, wC, k1, gC, and_assoc] using fin _ _ k2
                            · by_cases h11 : w &&& 15 = 11
                              · obtain ⟨k1, k2⟩ := t9 (Or.inr (Or.inr h11))
                                rw [h11] at k1 k2
                                simpa [h11, hz, nlt, plt, vi, v4, v128, vp, wA, wB, wC, k1, gC, and_assoc] using fin _ _ k2
                              · simpa [h0, h1, h2, h3, h4, h5, h6, h7, h8, h9, h10, h11, hz, nlt, plt, vi, v4, v128, vp, wA, wB, wC, tg, gC, and_assoc, mr_X5_trap] using fin _ _ (t12 h0 h1 h2 h3 h4 h5 h6 h7 h8 h9 h10 h11)
    · have s := hI1.1 i hi
      unfold mg_X5_answer mr_X5_answer
      simp only [pn_clamp hi4, ← e2]
      rcases s with s | s | s | s
      · exact absurd s hr
      · simp [s, vi, v4, hD1, hI1]
      · simp [s, vi, v4, hD1, hI1]
      · simp [s, vi, v4, hD1, hI1]
end PMW
