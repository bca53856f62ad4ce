/-! step: an access, finish and answer. -/
section PMU
variable {P : Nat → Nat} {C R : wk_Sg}
def pm_ans (C : wk_Sg) (i : Nat) : Int32 := if C (4, i, 0) 6 = 1 then 2 else if C (4, i, 0) 6 = 2 then 3 else if C (4, i, 0) 6 = 3 then 4 else 1
theorem pm_ans0 {i : Nat} (h : C (4, i, 0) 6 = 0) : pm_ans C i = 1 := by
  unfold pm_ans
  rw [h]
  decide
theorem pm_fin (hP : pm_P P) (hD : pm_D P C R) {i : Nat} (hi : i < P 0) (x : Int32) : pm_D P (ms_X1_finish P C i x) (ms_X5_done P R (nI i) x) := by
  unfold ms_X1_finish ms_X5_done
  have h6 := hD.2.2.2.2.2.2.1 i hi
  unfold pm_P at hP
  rw [pn_clamp (show i < 4000 by omega)]
  exact (hD.cp (Or.inl ⟨rfl, rfl⟩) rfl).cp (Or.inr (Or.inr (Or.inl ⟨rfl, rfl⟩))) (by simp [wk_up_at, h6.2.2.1])
theorem pm_fing (hP : pm_P P) {i : Nat} (hi : i < P 0) (x : Int32) : mg_X5_done P R (nI i) x := by
  unfold pm_P at hP
  have h : vp_in (nI i) 4 := pn_in (by omega) (by omega)
  exact ⟨h, h, h, trivial⟩
theorem pm_trapg (hP : pm_P P) {i : Nat} (hi : i < P 0) : mg_X5_trap P R (nI i) := by
  unfold pm_P at hP
  have h : vp_in (nI i) 4 := pn_in (by omega) (by omega)
  exact ⟨h, trivial⟩
theorem pm_finI (hP : pm_P P) (hI : pm_I P C) {i : Nat} (x : Int32) : pm_I P (ms_X1_finish P C i x) := by
  unfold ms_X1_finish
  refine hI.cg (fun i hi => ?_) (fun i j hi hj => ?_) ?_ hP <;> simp [wk_up_at]
theorem pm_fin6 {i : Nat} (x : Int32) : ms_X1_finish P C i x (4, i, 0) 6 = C (4, i, 0) 6 := by
  unfold ms_X1_finish
  simp [wk_up_at]
theorem pm_I.re (hP : pm_P P) (hI : pm_I P C) {i k : Nat} (x : Int32) : pm_I P (wk_up C (6, i, 0) k x) := by
  refine hI.cg (fun i hi => ?_) (fun i j hi hj => ?_) ?_ hP <;> simp [wk_up_at]
theorem pm_I.wd (hP : pm_P P) (hI : pm_I P C) {i j k : Nat} (x : Int32) : pm_I P (wk_up C (9, i, j) k x) := by
  refine hI.cg (fun i hi => ?_) (fun i j hi hj => ?_) ?_ hP <;> simp [wk_up_at]
theorem pm_answ {i kA : Nat} {w : Int32} (hA : (w >>> ((4 : Int32) &&& 31)) &&& 3 = nI kA) (hk : kA < 4) (r : Int32) : mg_X1_answer P C i w r ∧ ms_X1_answer P C i w r = ms_X1_finish P (wk_up C (6, i, 0) kA r) i (C (4, i, 0) 5 + 1) := by
  unfold mg_X1_answer ms_X1_answer mr_X1_fieldA
  rw [hA, pn_clamp (show kA < 4000 by omega)]
  refine ⟨⟨pn_in hk (by omega), trivial⟩, ?_⟩
  rw [wk_up_ne _ _ _ (show ((4, i, 0) : wk_K3) ≠ (6, i, 0) by simp)]
/-- the answer of an instruction that went through: relation, invariant, 1 -/
theorem pm_doneA (hP : pm_P P) (hD : pm_D P C R) (hI : pm_I P C) {i kA : Nat} {w : Int32} (hi : i < P 0) (hr : C (4, i, 0) 6 = 0) (hA : (w >>> ((4 : Int32) &&& 31)) &&& 3 = nI kA) (hk : kA < 4) {r r' q : Int32} (hrr : r = r') (hq : C (4, i, 0) 5 = q) : pm_D P (ms_X1_answer P C i w r) (ms_X5_done P (wk_up R (23, 0, 0) (4 * i + kA) r') (nI i) (q + 1)) ∧ pm_I P (ms_X1_answer P C i w r) ∧ pm_ans (ms_X1_answer P C i w r) i = 1 := by
  subst hq
  rw [(pm_answ (P := P) (C := C) (i := i) hA hk r).2]
  refine ⟨pm_fin hP (hD.re hP hi hk hrr) hi _, pm_finI hP (hI.re hP _) _, pm_ans0 ?_⟩
  rw [pm_fin6]
  simpa [wk_up_at] using hr

set_option maxHeartbeats 4000000 in
theorem pm_move (hP : pm_P P) (hD : pm_D P C R) (hI : pm_I P C) {i kA kC : Nat} {w a : Int32} (hi : i < P 0) (hr : C (4, i, 0) 6 = 0) (hA : (w >>> ((4 : Int32) &&& 31)) &&& 3 = nI kA) (hkA : kA < 4) (hC : (w >>> ((8 : Int32) &&& 31)) &&& 3 = nI kC) (hkC : kC < 4) {op : Int32} (ho : w &&& 15 = op) (hop : op = 9 ∨ op = 10 ∨ op = 11) :
    (mg_X1_tryAccess P C i w a ∧ mg_X5_move P R (nI i) op (nI kA) (C (6, i, 0) kC) a) ∧ pm_D P (ms_X1_tryAccess P C i w a) (ms_X5_move P R (nI i) op (nI kA) (C (6, i, 0) kC) a) ∧ pm_I P (ms_X1_tryAccess P C i w a) ∧ pm_ans (ms_X1_tryAccess P C i w a) i = mr_X5_move P R (nI i) op (nI kA) (C (6, i, 0) kC) a := by
  have hD' := hD
  have hP' := hP
  obtain ⟨h0, ⟨hw, -⟩, ⟨c0, c1, c2, c3, c4⟩, h3, h4, h5, h6, h7, -⟩ := hD
  unfold pm_P at hP
  have v4 : vp_in (nI i) 4 := pn_in (by omega) (by omega)
  have r6 := h6 i hi
  unfold mg_X1_tryAccess mg_X5_move ms_X1_tryAccess ms_X5_move mr_X5_move mr_X2_has
  rcases pn_cases a (P 3) (by omega) with h | ⟨b, hb, rfl⟩
  · have hz := pm_wout (P := P) (sg := C) h
    have hz2 := pm_aout (P := P) c3 h
    refine ⟨⟨by simp [hz], by simp [hz2, pm_trapg hP' hi]⟩, ?_, ?_, ?_⟩
    · simp only [hz, hz2, if_true]
      unfold ms_X5_trap
      rw [pn_clamp (show i < 4000 by omega)]
      exact hD'.cp (Or.inr (Or.inl ⟨rfl, rfl⟩)) rfl
    · simp only [hz, if_true]
      exact hI.stt hi hr (by simp)
    · simp [hz, hz2, pm_ans, mr_X5_trap, wk_up_at]
  · have hn5 : b / P 2 < P 5 := by
      rw [Nat.div_lt_iff_lt_mul (by omega), Nat.mul_comm]
      omega
    have hn4 : b / P 2 < 4000 := by omega
    have hm := pm_mod hP' (b / P 2)
    have hmo : b % P 2 < P 2 := Nat.mod_lt _ (by omega)
    have np2 : ¬ nI (P 2) = 0 := pn_ne0 (by omega) (by omega)
    have hL : mr_X2_lineOf P C (nI b) = nI (b / P 2) := by
      unfold mr_X2_lineOf
      rw [hw]
      exact pn_div (by omega) (by omega) (by omega)
    have hLg : mg_X2_lineOf P C (nI b) := by
      unfold mg_X2_lineOf
      rw [hw]
      exact ⟨np2, trivial⟩
    have hO : mr_X2_offsetOf P C (nI b) = nI (b % P 2) := by
      unfold mr_X2_offsetOf
      rw [hw]
      exact pn_rem (by omega) (by omega) (by omega)
    have hOg : mg_X2_offsetOf P C (nI b) := by
      unfold mg_X2_offsetOf
      rw [hw]
      exact ⟨np2, trivial⟩
    have er := pn_rem (a := b) (b := P 2) (by omega) (by omega) (by omega)
    have ed := pn_div (a := b) (b := P 2) (by omega) (by omega) (by omega)
    rw [ed] at er
    have hsf := pm_slotFor hP' (sg := C) (i := i) hn4
    have eWD : (4 : Int32) * nI (8 * i + b / P 2 % P 1) + nI (b % P 2) = nI (4 * (8 * i + b / P 2 % P 1) + b % P 2) := by rw [pn_m4, nI_add]
    have eRG : (4 : Int32) * nI i + nI kA = nI (4 * i + kA) := by rw [pn_m4, nI_add]
    have vWD : vp_in (nI (4 * (8 * i + b / P 2 % P 1) + b % P 2)) 128 := pn_in (by omega) (by omega)
    have vRG : vp_in (nI (4 * i + kA)) 16 := pn_in (by omega) (by omega)
    have vAT : vp_in (nI (8 * i + b / P 2 % P 1)) 32 := pn_in (by omega) (by omega)
    have vO : vp_in (nI (b % P 2)) (P 2) := pn_in hmo (by omega)
    have vA : vp_in (nI kA) 4 := pn_in hkA (by omega)
    have vC : vp_in (nI kC) 4 := pn_in hkC (by omega)
    have hz := pm_win (P := P) (sg := C) hb (by omega)
    have hz2 := pm_ain (P := P) c3 hb (by omega)
    have hstg := pr_stateOfg hP' c1 hi hn4
    have hslg := pr_slotOfg hP' c1 (nI i) (nI (b / P 2))
    have hslo := pr_slotOf hP' c1 (i := i) hn4
    have hRA := h5 i kA hi hkA
    have hfing : ∀ (R0 : wk_Sg) (x : Int32), mg_X5_done P R0 (nI i) x := fun R0 x => pm_fing hP' hi x
    simp only [hL, hO, c2, ed, er, hz, hz2, hslo, eWD, eRG, pm_idx hP' hn4, pn_clamp hm.2, pn_clamp (show i < 4000 by omega), pn_clamp (show 4 * (8 * i + b / P 2 % P 1) + b % P 2 < 4000 by omega), pn_clamp (show 4 * i + kA < 4000 by omega), pn_clamp (show 8 * i + b / P 2 % P 1 < 4000 by omega)]
    have ask : ∀ k : Int32, (k = 1 ∨ k = 2) → (k = 1 → ¬ pm_hold P C i (b / P 2)) → pm_D P (ms_X1_ask P C i k (nI (b / P 2))) (wk_up (wk_up (wk_up R (25, 0, 0) i 1) (27, 0, 0) i k) (28, 0, 0) i (nI (b / P 2))) ∧ pm_I P (ms_X1_ask P C i k (nI (b / P 2))) ∧ pm_ans (ms_X1_ask P C i k (nI (b / P 2))) i = 2 := by
      intro k hk hk1
      unfold ms_X1_ask
      refine ⟨((hD'.cp (Or.inr (Or.inl ⟨rfl, rfl⟩)) rfl).cp (Or.inr (Or.inr (Or.inr (Or.inl ⟨rfl, rfl⟩)))) rfl).cp (Or.inr (Or.inr (Or.inr (Or.inr ⟨rfl, rfl⟩)))) rfl, hI.ask hi hn5 hr hk hk1, ?_⟩
      simp [pm_ans, wk_up_at]
    have hop9 : ∀ (sg : wk_Sg), mr_X1_operation P sg w = op := fun sg => ho
    rcases hop with rfl | rfl | rfl
    · -- LOAD
      rcases pr_stateOf hP' hD' hI hi hn5 with ⟨g1, g2, g3⟩ | ⟨g1, g2⟩
      · have hh : mr_X3_holds P C i (b / P 2 % P 1) (nI (b / P 2)) = 1 := by
          rcases pm_holds (P := P) (C := C) (i := i) (n := b / P 2) with q | q
          · exact q.1
          · exact absurd g1 q.2
        have hwd := ((h7 i (b / P 2 % P 1) hi hm.1).2.2 (b % P 2) hmo).2 g1.1
        have hans := pm_answ (P := P) (C := C) (i := i) hA hkA (C (9, i, b / P 2 % P 1) (b % P 2))
        have hacc : ms_X1_access P C i w i (b / P 2 % P 1) (nI (b % P 2)) = ms_X1_answer P C i w (C (9, i, b / P 2 % P 1) (b % P 2)) := by
          unfold ms_X1_access
          rw [hop9 C, if_pos rfl, pn_clamp (show b % P 2 < 4000 by omega)]
        have haccg : mg_X1_access P C i w i (b / P 2 % P 1) (nI (b % P 2)) := by
          unfold mg_X1_access mr_X1_fieldA
          rw [hop9 C, hA, pn_clamp (show b % P 2 < 4000 by omega)]
          exact ⟨vA, vO, fun _ => ⟨hans.1, trivial⟩, fun h => absurd rfl h⟩
        obtain ⟨q1, q2, q3⟩ := pm_doneA hP' hD' hI hi hr hA hkA hwd r6.1
        refine ⟨⟨?_, ?_⟩, ?_, ?_, ?_⟩
        · simp [hop9 C, hh, hLg, hsf, hOg, haccg]
        · simp [g3, np2, hstg, hslg, vWD, vRG, v4, hfing]
        · simpa [hop9 C, hh, g3, hacc, wk_up_at] using q1
        · simpa [hop9 C, hh, hacc] using q2
        · simpa [hop9 C, hh, hacc, g3, mr_X5_done] using q3
      · have hh : mr_X3_holds P C i (b / P 2 % P 1) (nI (b / P 2)) = 0 := by
          rcases pm_holds (P := P) (C := C) (i := i) (n := b / P 2) with q | q
          · exact absurd q.2 g1
          · exact q.1
        obtain ⟨q1, q2, q3⟩ := ask 1 (Or.inl rfl) (fun _ => g1)
        refine ⟨⟨?_, ?_⟩, ?_, ?_, ?_⟩
        · simp [hop9 C, hh, hLg, hsf]
        · simp [g2, np2, hstg, v4]
        · simpa [hop9 C, hh, g2] using q1
        · simpa [hop9 C, hh] using q2
        · simpa [hop9 C, hh, g2] using q3
    · -- STORE
      rcases pr_stateOf hP' hD' hI hi hn5 with ⟨g1, g2, g3⟩ | ⟨g1, g2⟩
      · have hh : mr_X3_holds P C i (b / P 2 % P 1) (nI (b / P 2)) = 1 := by
          rcases pm_holds (P := P) (C := C) (i := i) (n := b / P 2) with q | q
          · exact q.1
          · exact absurd g1 q.2
        by_cases hs : C (8, i, b / P 2 % P 1) 1 = 2 ∨ C (8, i, b / P 2 % P 1) 1 = 4
        · have hmay : mr_X3_maySetWords P C i (b / P 2 % P 1) = 1 := by
            unfold mr_X3_maySetWords
            rcases hs with s | s <;> rw [s] <;> decide
          have hacc : ms_X1_access P C i w i (b / P 2 % P 1) (nI (b % P 2)) = ms_X1_finish P (wk_up (wk_up C (8, i, b / P 2 % P 1) 1 4) (9, i, b / P 2 % P 1) (b % P 2) (C (6, i, 0) kA)) i (C (4, i, 0) 5 + 1) := by
            unfold ms_X1_access ms_X3_setWord mr_X1_fieldA
            rw [hop9 C, hA, if_neg (by decide), if_pos rfl, pn_clamp (show b % P 2 < 4000 by omega), pn_clamp (show kA < 4000 by omega), wk_up_comm _ _ _ _ _ (by simp)]
            simp [wk_up_at]
          have haccg : mg_X1_access P C i w i (b / P 2 % P 1) (nI (b % P 2)) := by
            unfold mg_X1_access mr_X1_fieldA mg_X3_setWord
            rw [hop9 C, hA]
            exact ⟨vA, vO, fun h => absurd h (by decide), fun _ => ⟨fun _ => ⟨⟨vO, trivial⟩, trivial⟩, fun h => absurd rfl h⟩⟩
          have dD := (hD'.s4 hP' hi hm.1 g1.1 (x := 4) rfl (by decide)).wd hP' hi hm.1 hmo (x := C (6, i, 0) kA) (y := R (23, 0, 0) (4 * i + kA)) (by simp [wk_up_at]) hRA
          have q1 := pm_fin hP' dD hi (C (4, i, 0) 5 + 1)
          have q2 := pm_finI hP' ((hI.s4 hP' hi hn5 hr g1 hs).wd hP' (i := i) (j := b / P 2 % P 1) (k := b % P 2) (C (6, i, 0) kA)) (i := i) (C (4, i, 0) 5 + 1)
          have q3 : pm_ans (ms_X1_finish P (wk_up (wk_up C (8, i, b / P 2 % P 1) 1 4) (9, i, b / P 2 % P 1) (b % P 2) (C (6, i, 0) kA)) i (C (4, i, 0) 5 + 1)) i = 1 := pm_ans0 (by rw [pm_fin6]; simpa [wk_up_at] using hr)
          rw [← hacc] at q1 q2 q3
          rw [r6.1] at q1
          refine ⟨⟨?_, ?_⟩, ?_, ?_, ?_⟩
          · simp [hop9 C, hh, hmay, hLg, hsf, hOg, haccg]
          · rw [g2]
            rcases hs with s | s <;> simp [s, np2, hstg, hslg, vWD, vRG, vAT, v4, hfing]
          · rw [g2]
            rcases hs with s | s <;> simpa [hop9 C, hh, hmay, s, wk_up_at] using q1
          · simpa [hop9 C, hh, hmay] using q2
          · rw [g2]
            rcases hs with s | s <;> simpa [hop9 C, hh, hmay, s, mr_X5_done] using q3
        · have s2 : ¬ C (8, i, b / P 2 % P 1) 1 = 2 := fun e => hs (Or.inl e)
          have s4 : ¬ C (8, i, b / P 2 % P 1) 1 = 4 := fun e => hs (Or.inr e)
          have hmay : mr_X3_maySetWords P C i (b / P 2 % P 1) = 0 := by
            unfold mr_X3_maySetWords
            rw [if_neg s2, if_neg s4]
          obtain ⟨q1, q2, q3⟩ := ask 2 (Or.inr rfl) (fun h => absurd h (by decide))
          refine ⟨⟨?_, ?_⟩, ?_, ?_, ?_⟩
          · simp [hop9 C, hh, hmay, hLg, hsf]
          · rw [g2]; simp [s2, s4, np2, hstg, v4]
          · rw [g2]; simpa [hop9 C, hh, hmay, s2, s4] using q1
          · simpa [hop9 C, hh, hmay] using q2
          · rw [g2]; simpa [hop9 C, hh, hmay, s2, s4] using q3
      · have hh : mr_X3_holds P C i (b / P 2 % P 1) (nI (b / P 2)) = 0 := by
          rcases pm_holds (P := P) (C := C) (i := i) (n := b / P 2) with q | q
          · exact absurd q.2 g1
          · exact q.1
        obtain ⟨q1, q2, q3⟩ := ask 2 (Or.inr rfl) (fun h => absurd h (by decide))
        refine ⟨⟨?_, ?_⟩, ?_, ?_, ?_⟩
        · simp [hop9 C, hh, hLg, hsf]
        · simp [g2, np2, hstg, v4]
        · simpa [hop9 C, hh, g2] using q1
        · simpa [hop9 C, hh] using q2
        · simpa [hop9 C, hh, g2] using q3
    · -- SWAP
      rcases pr_stateOf hP' hD' hI hi hn5 with ⟨g1, g2, g3⟩ | ⟨g1, g2⟩
      · have hh : mr_X3_holds P C i (b / P 2 % P 1) (nI (b / P 2)) = 1 := by
          rcases pm_holds (P := P) (C := C) (i := i) (n := b / P 2) with q | q
          · exact q.1
          · exact absurd g1 q.2
        by_cases hs : C (8, i, b / P 2 % P 1) 1 = 2 ∨ C (8, i, b / P 2 % P 1) 1 = 4
        · have hmay : mr_X3_maySetWords P C i (b / P 2 % P 1) = 1 := by
            unfold mr_X3_maySetWords
            rcases hs with s | s <;> rw [s] <;> decide
          have hwd := ((h7 i (b / P 2 % P 1) hi hm.1).2.2 (b % P 2) hmo).2 g1.1
          have dS := hD'.s4 hP' hi hm.1 g1.1 (x := 4) rfl (by decide)
          have iS := hI.s4 hP' hi hn5 hr g1 hs
          have haccg : mg_X1_access P C i w i (b / P 2 % P 1) (nI (b % P 2)) := by
            unfold mg_X1_access mr_X1_fieldA mr_X1_fieldC mg_X3_setWord
            rw [hop9 C, hA, hC]
            exact ⟨vA, vO, fun h => absurd h (by decide), fun _ => ⟨fun h => absurd h (by decide), fun _ => ⟨vC, fun _ => ⟨⟨vO, trivial⟩, (pm_answ hA hkA _).1, trivial⟩, fun _ => ⟨⟨vO, trivial⟩, (pm_answ hA hkA _).1, trivial⟩⟩⟩⟩
          by_cases hf : C (9, i, b / P 2 % P 1) (b % P 2) = C (6, i, 0) kC
          · have hacc : ms_X1_access P C i w i (b / P 2 % P 1) (nI (b % P 2)) = ms_X1_answer P (wk_up (wk_up C (8, i, b / P 2 % P 1) 1 4) (9, i, b / P 2 % P 1) (b % P 2) (C (6, i, 0) kA)) i w 1 := by
              unfold ms_X1_access ms_X3_setWord mr_X1_fieldA mr_X1_fieldC
              rw [hop9 C, hA, hC, if_neg (by decide), if_neg (by decide), pn_clamp (show b % P 2 < 4000 by omega), pn_clamp (show kA < 4000 by omega), pn_clamp (show kC < 4000 by omega), if_pos hf, wk_up_comm _ _ _ _ _ (by simp)]
            have dD := dS.wd hP' hi hm.1 hmo (x := C (6, i, 0) kA) (y := R (23, 0, 0) (4 * i + kA)) (by simp [wk_up_at]) hRA
            obtain ⟨q1, q2, q3⟩ := pm_doneA hP' dD (iS.wd hP' (i := i) (j := b / P 2 % P 1) (k := b % P 2) (C (6, i, 0) kA)) hi (by simpa [wk_up_at] using hr) hA hkA (r := 1) (r' := 1) (q := R (24, 0, 0) i) rfl (by simpa [wk_up_at] using r6.1)
            rw [← hacc] at q1 q2 q3
            have hf2 : R (31, 0, 0) (4 * (8 * i + b / P 2 % P 1) + b % P 2) = C (6, i, 0) kC := by rw [← hwd]; exact hf
            refine ⟨⟨?_, ?_⟩, ?_, ?_, ?_⟩
            · simp [hop9 C, hh, hmay, hLg, hsf, hOg, haccg]
            · rw [g2]
              rcases hs with s | s <;> simp [s, np2, hstg, hslg, vWD, vRG, vAT, v4, hfing]
            · rw [g2]
              rcases hs with s | s <;> simpa [hop9 C, hh, hmay, s, wk_up_at, hf2] using q1
            · simpa [hop9 C, hh, hmay] using q2
            · rw [g2]
              rcases hs with s | s <;> simpa [hop9 C, hh, hmay, s, mr_X5_done] using q3
          · have hacc : ms_X1_access P C i w i (b / P 2 % P 1) (nI (b % P 2)) = ms_X1_answer P (wk_up C (8, i, b / P 2 % P 1) 1 4) i w 0 := by
              unfold ms_X1_access ms_X3_setWord mr_X1_fieldA mr_X1_fieldC
              rw [hop9 C, hA, hC, if_neg (by decide), if_neg (by decide), pn_clamp (show b % P 2 < 4000 by omega), pn_clamp (show kC < 4000 by omega), if_neg hf, wk_up_id]
            obtain ⟨q1, q2, q3⟩ := pm_doneA hP' dS iS hi (by simpa [wk_up_at] using hr) hA hkA (r := 0) (r' := 0) (q := R (24, 0, 0) i) rfl (by simpa [wk_up_at] using r6.1)
            rw [← hacc] at q1 q2 q3
            have hf2 : ¬ R (31, 0, 0) (4 * (8 * i + b / P 2 % P 1) + b % P 2) = C (6, i, 0) kC := by rw [← hwd]; exact hf
            refine ⟨⟨?_, ?_⟩, ?_, ?_, ?_⟩
            · simp [hop9 C, hh, hmay, hLg, hsf, hOg, haccg]
            · rw [g2]
              rcases hs with s | s <;> simp [s, np2, hstg, hslg, vWD, vRG, vAT, v4, hfing]
            · rw [g2]
              rcases hs with s | s <;> simpa [hop9 C, hh, hmay, s, wk_up_at, hf2] using q1
            · simpa [hop9 C, hh, hmay] using q2
            · rw [g2]
              rcases hs with s | s <;> simpa [hop9 C, hh, hmay, s, mr_X5_done] using q3
        · have s2 : ¬ C (8, i, b / P 2 % P 1) 1 = 2 := fun e => hs (Or.inl e)
          have s4 : ¬ C (8, i, b / P 2 % P 1) 1 = 4 := fun e => hs (Or.inr e)
          have hmay : mr_X3_maySetWords P C i (b / P 2 % P 1) = 0 := by
            unfold mr_X3_maySetWords
            rw [if_neg s2, if_neg s4]
          obtain ⟨q1, q2, q3⟩ := ask 2 (Or.inr rfl) (fun h => absurd h (by decide))
          refine ⟨⟨?_, ?_⟩, ?_, ?_, ?_⟩
          · simp [hop9 C, hh, hmay, hLg, hsf]
          · rw [g2]; simp [s2, s4, np2, hstg, v4]
          · rw [g2]; simpa [hop9 C, hh, hmay, s2, s4] using q1
          · simpa [hop9 C, hh, hmay] using q2
          · rw [g2]; simpa [hop9 C, hh, hmay, s2, s4] using q3
      · have hh : mr_X3_holds P C i (b / P 2 % P 1) (nI (b / P 2)) = 0 := by
          rcases pm_holds (P := P) (C := C) (i := i) (n := b / P 2) with q | q
          · exact absurd q.2 g1
          · exact q.1
        obtain ⟨q1, q2, q3⟩ := ask 2 (Or.inr rfl) (fun h => absurd h (by decide))
        refine ⟨⟨?_, ?_⟩, ?_, ?_, ?_⟩
        · simp [hop9 C, hh, hLg, hsf]
        · simp [g2, np2, hstg, v4]
        · simpa [hop9 C, hh, g2] using q1
        · simpa [hop9 C, hh] using q2
        · simpa [hop9 C, hh, g2] using q3
end PMU
