/-! bus: the phases, and the call. -/
section PMR
variable {P : Nat → Nat} {C R : wk_Sg} {x y d : Int32}
theorem pm_lor24 (x : Int32) : ¬ pm_lor x = 2 ∧ ¬ pm_lor x = 4 := by
  unfold pm_lor
  by_cases h4 : x = 4
  · rw [if_pos h4]; decide
  · by_cases h2 : x = 2
    · rw [if_neg h4, if_pos h2]; decide
    · rw [if_neg h4, if_neg h2]; exact ⟨h2, h4⟩
theorem pm_lorS {x : Int32} (h2 : ¬ x = 2) (h4 : ¬ x = 4) : pm_lor x = x := by
  unfold pm_lor
  rw [if_neg h4, if_neg h2]
/-- SNOOP: the invariant -/
theorem pm_snI (hP : pm_P P) (hI : pm_I P C) {c n : Nat} (hc : c < P 0) (hn : n < P 5) {C1 C' : wk_Sg} (e6 : C (10, 0, 0) 6 = nI c) (e8 : C (10, 0, 0) 8 = nI n) (h7 : C (10, 0, 0) 7 = 1 ∨ C (10, 0, 0) 7 = 2) (hst : C (4, c, 0) 6 = 1) (hrq : C (4, c, 0) 8 = 0) (hrd : C (10, 0, 0) 7 = 1 → ¬ pm_hold P C c n)
    (a4 : ∀ i, C1 (4, i, 0) = C (4, i, 0)) (a8 : ∀ i j, C1 (8, i, j) = C (8, i, j)) (a5 : C1 (10, 0, 0) 5 = 3) (a6 : C1 (10, 0, 0) 6 = C (10, 0, 0) 6) (a7 : C1 (10, 0, 0) 7 = C (10, 0, 0) 7) (a10 : C1 (10, 0, 0) 8 = C (10, 0, 0) 8) (hX : pm_snX P C1 C' c n 0) : pm_I P C' := by
  obtain ⟨x1, x2, x3, x4, x5⟩ := hX
  have hm := pm_mod hP n
  have h4 : ∀ i, C' (4, i, 0) = C (4, i, 0) := fun i => by rw [x1 (4, i, 0) (by simp) (by simp) (by simp) (by simp), a4]
  have hho : ∀ i m, pm_hold P C1 i m ↔ pm_hold P C i m := fun i m => by unfold pm_hold; rw [a8]
  obtain ⟨i1, i2, i3, i4, i5⟩ := hI
  -- what a slot is then
  have sl : ∀ i j, i < P 0 → j < P 1 → (C' (8, i, j) 1 = C (8, i, j) 1 ∧ C' (8, i, j) 2 = C (8, i, j) 2) ∨ ((C (10, 0, 0) 7 = 1 ∧ ¬ C (8, i, j) 1 = 0 ∧ C' (8, i, j) 1 = pm_lor (C (8, i, j) 1) ∧ C' (8, i, j) 2 = C (8, i, j) 2) ∨ (C' (8, i, j) 1 = 0 ∧ C' (8, i, j) 2 = -1)) := by
    intro i j hi hj
    obtain ⟨y1, y2⟩ := x5 i j hi hj
    rw [a8, a7] at y1
    rw [a8] at y2
    by_cases z : 0 ≤ i ∧ ¬ i = c ∧ j = n % P 1 ∧ pm_hold P C1 i n
    · obtain ⟨w1, w2⟩ := y1 z
      by_cases z7 : C (10, 0, 0) 7 = 1
      · refine Or.inr (Or.inl ⟨z7, ?_, w1 z7⟩)
        rw [z.2.2.1]
        exact ((hho i n).mp z.2.2.2).1
      · exact Or.inr (Or.inr (w2 z7))
    · exact Or.inl (y2 z)
  have hp1 : 0 < P 1 := by unfold pm_P at hP; omega
  have hh : ∀ i m, i < P 0 → pm_hold P C' i m → pm_hold P C i m ∧ (C' (8, i, m % P 1) 1 = C (8, i, m % P 1) 1 ∨ C' (8, i, m % P 1) 1 = pm_lor (C (8, i, m % P 1) 1)) := by
    intro i m hi q
    rcases sl i (m % P 1) hi (Nat.mod_lt _ hp1) with s | s | s
    · exact ⟨⟨by rw [← s.1]; exact q.1, by rw [← s.2]; exact q.2⟩, Or.inl s.1⟩
    · exact ⟨⟨s.2.1, by rw [← s.2.2.2]; exact q.2⟩, Or.inr s.2.2.1⟩
    · exact absurd s.1 q.1
  refine ⟨fun i hi => by rw [h4]; exact i1 i hi, fun i hi => ?_, fun i j hi hj => ?_, ?_, fun m a b hm' ha hb hne q1 q2 => ?_⟩
  · rw [h4]
    rcases i2 i hi with g | ⟨g1, g2, m, g3, g4, g5⟩
    · exact Or.inl g
    · exact Or.inr ⟨g1, g2, m, g3, g4, fun e q => g5 e (hh i m hi q).1⟩
  · rcases sl i j hi hj with s | s | s
    · rw [s.1, s.2]; exact i3 i j hi hj
    · rcases i3 i j hi hj with t | t
      · exact absurd t.1 s.2.1
      · rw [s.2.2.1, s.2.2.2]
        exact Or.inr ⟨pm_lor0 s.2.1, t.2⟩
    · exact Or.inl s
  · unfold pm_i4
    rw [x2 5 (by omega), x2 7 (by omega), x2 6 (by omega), x2 8 (by omega), a5, a6, a7, a10]
    refine Or.inr ⟨Or.inr (Or.inr rfl), h7, c, n, hc, hn, e6, e8, by rw [h4]; exact hst, by rw [h4]; exact hrq, fun e q => hrd e (hh c n hc q).1, fun _ i hi hne q => ?_⟩
    obtain ⟨q1, -⟩ := hh i n hi q
    have hz : 0 ≤ i ∧ ¬ i = c ∧ n % P 1 = n % P 1 ∧ pm_hold P C1 i n := ⟨Nat.zero_le _, hne, rfl, (hho i n).mpr q1⟩
    obtain ⟨w1, w2⟩ := (x5 i (n % P 1) hi hm.1).1 hz
    rw [a7] at w1 w2
    have z7 : C (10, 0, 0) 7 = 1 := by
      by_cases z : C (10, 0, 0) 7 = 1
      · exact z
      · exact absurd (w2 z).1 q.1
    refine ⟨z7, ?_, ?_⟩
    · rw [x4 ⟨i, Nat.zero_le _, hi, hne, (hho i n).mpr q1⟩]
      decide
    · rw [(w1 z7).1]
      exact pm_lor24 _
  · obtain ⟨p1, p2⟩ := hh a m ha q1
    obtain ⟨p3, p4⟩ := hh b m hb q2
    have base := i5 m a b hm' ha hb hne p1 p3
    have base' := i5 m b a hm' hb ha (fun z => hne z.symm) p3 p1
    have ea : C' (8, a, m % P 1) 1 = C (8, a, m % P 1) 1 := by
      rcases p2 with p2 | p2
      · exact p2
      · rw [p2, pm_lorS base.1 base.2.1]
    have eb : C' (8, b, m % P 1) 1 = C (8, b, m % P 1) 1 := by
      rcases p4 with p4 | p4
      · exact p4
      · rw [p4, pm_lorS base'.1 base'.2.1]
    rw [ea, eb]
    exact base
/-- SNOOP, both sides -/
theorem pm_snoop (hP : pm_P P) (hD : pm_D P C R) (hI : pm_I P C) {c n : Nat} (hc : c < P 0) (hn : n < P 5) (e6 : C (10, 0, 0) 6 = nI c) (e8 : C (10, 0, 0) 8 = nI n) (h7 : C (10, 0, 0) 7 = 1 ∨ C (10, 0, 0) 7 = 2) (hst : C (4, c, 0) 6 = 1) (hrq : C (4, c, 0) 8 = 0) (hrd : C (10, 0, 0) 7 = 1 → ¬ pm_hold P C c n) :
    mg_X0_snoop P (wk_up (wk_up C (10, 0, 0) 5 3) (11, 0, 0) 2 (C (11, 0, 0) 2 + 1)) ∧ mg_X5_snoop P R ∧ mr_X5_snoop P R = 3 ∧ pm_D P (ms_X0_snoop P (wk_up (wk_up C (10, 0, 0) 5 3) (11, 0, 0) 2 (C (11, 0, 0) 2 + 1))) (ms_X5_snoop P R) ∧ pm_I P (ms_X0_snoop P (wk_up (wk_up C (10, 0, 0) 5 3) (11, 0, 0) 2 (C (11, 0, 0) 2 + 1))) := by
  have hE := hD.e.ph (x := 3) (y := C (11, 0, 0) 2 + 1) 2
  have hP' := hP
  have hw : C (1, 0, 0) 0 = nI (P 2) := hD.2.1.1
  have c2 : R (20, 0, 0) 2 = nI (P 2) := hD.2.2.1.2.2.1
  have m8 : R (20, 0, 0) 20 = nI n := by rw [← hD.2.2.2.2.2.2.2.2.1.2.2.2.1]; exact e8
  have hmem := hD.2.2.2.1
  have hdn := hD.2.2.2.2.2.2.2.2.2.2
  unfold pm_P at hP
  have hb : P 2 * n + P 2 ≤ P 3 := by
    have : P 2 * (n + 1) ≤ P 2 * P 5 := Nat.mul_le_mul_left _ hn
    rw [Nat.mul_succ] at this
    omega
  generalize hSe : wk_up (wk_up C (10, 0, 0) 5 3) (11, 0, 0) 2 (C (11, 0, 0) 2 + 1) = S at hE ⊢
  have s1 : S (1, 0, 0) 0 = nI (P 2) := by rw [← hSe]; simpa [wk_up_at] using hw
  have s8 : S (10, 0, 0) 8 = nI n := by rw [← hSe]; simpa [wk_up_at] using e8
  have s2 : S (2, 0, 0) = C (2, 0, 0) := by rw [← hSe, wk_up_ne _ _ _ (by simp), wk_up_ne _ _ _ (by simp)]
  have e5 : nI n * nI (P 2) = nI (P 2 * n) := by rw [pn_mul, Nat.mul_comm]
  have hrl : mg_X2_readLine P S (nI n) := by
    unfold mg_X2_readLine
    rw [s1, e5]
    refine ⟨⟨pn_nneg (by omega), by decide, pn_nneg (by omega), ?_, ?_⟩, trivial⟩
    · rw [pn_clamp (show P 2 < 4000 by omega), pn_clamp (show P 2 * n < 4000 by omega)]
      omega
    · rw [pn_clamp (show P 2 < 4000 by omega)]
      show 0 + P 2 ≤ P 2
      omega
  have hrs : ms_X2_readLine P S (nI n) = wk_su S (12, 0, 0) (va_cpy (C (2, 0, 0)) (S (12, 0, 0)) (P 2 * n) 0 (P 2)) := by
    unfold ms_X2_readLine
    rw [s1, e5, s2, pn_clamp (show P 2 < 4000 by omega), pn_clamp (show P 2 * n < 4000 by omega)]
    rfl
  have hE1 : pm_E P (wk_up (wk_su S (12, 0, 0) (va_cpy (C (2, 0, 0)) (S (12, 0, 0)) (P 2 * n) 0 (P 2))) (10, 0, 0) 4 0) (wk_su (wk_up R (20, 0, 0) 21 0) (32, 0, 0) (fun x => if 0 ≤ x ∧ x < P 2 then wk_up R (20, 0, 0) 21 0 (21, 0, 0) (P 2 * n + x) else wk_up R (20, 0, 0) 21 0 (32, 0, 0) x)) := by
    rw [← wk_su_comm _ _ _ _ (by simp)]
    refine (hE.kp (fun k hk => ?_)).bu (k := 4) (t := 21) (Or.inr (Or.inr (Or.inr ⟨rfl, rfl⟩))) rfl
    have := hmem (P 2 * n + k) (by omega)
    simp [va_cpy, hk, wk_up_at, this]
  generalize hCe : wk_up (wk_su S (12, 0, 0) (va_cpy (C (2, 0, 0)) (S (12, 0, 0)) (P 2 * n) 0 (P 2))) (10, 0, 0) 4 0 = C1 at hE1
  have f4 : ∀ i, C1 (4, i, 0) = C (4, i, 0) := fun i => by rw [← hCe, wk_up_ne _ _ _ (by simp), wk_su_ne _ _ (by simp), ← hSe, wk_up_ne _ _ _ (by simp), wk_up_ne _ _ _ (by simp)]
  have f8 : ∀ i j, C1 (8, i, j) = C (8, i, j) := fun i j => by rw [← hCe, wk_up_ne _ _ _ (by simp), wk_su_ne _ _ (by simp), ← hSe, wk_up_ne _ _ _ (by simp), wk_up_ne _ _ _ (by simp)]
  have fb : ∀ q, ¬ q = 4 → ¬ q = 5 → C1 (10, 0, 0) q = C (10, 0, 0) q := fun q h1 h2 => by
    rw [← hCe, ← hSe]
    simp [wk_up_at, wk_su_at, h1, h2]
  have f5 : C1 (10, 0, 0) 5 = 3 := by rw [← hCe, ← hSe]; simp [wk_up_at, wk_su_at]
  have f11 : ∀ k, C1 (11, 0, 0) k = if k = 2 then C (11, 0, 0) 2 + 1 else C (11, 0, 0) k := fun k => by
    rw [← hCe, ← hSe]
    simp [wk_up_at, wk_su_at]
  have h3 : pm_i3 P C1 := fun i j hi hj => by rw [f8]; exact hI.2.2.1 i j hi hj
  obtain ⟨q1, q2, ⟨R', q3, q4, q5, q6⟩, q7⟩ := pm_snL hP' hc hn 5 0 C1 _ (Nat.zero_le _) (by omega) hE1 h3 (by rw [fb 6 (by omega) (by omega)]; exact e6) (by rw [fb 8 (by omega) (by omega)]; exact e8) (by rw [fb 7 (by omega) (by omega)]; exact h7)
  obtain ⟨r1, r2, r3⟩ := pr_L7 (P := P) (w := P 2) (n := n) (by omega) (by omega) 5 0 (wk_up R (20, 0, 0) 21 0) (by omega) (by omega) (by simpa [wk_up_at] using c2) (by simpa [wk_up_at] using m8) q2
  have hms : ms_X0_snoop P S = ms_X0_snoop_L22 5 P C1 (nI 0) := by
    unfold ms_X0_snoop
    rw [s8, hrs, hCe]
    rfl
  have hmg : mg_X0_snoop P S := by
    unfold mg_X0_snoop
    rw [s8, hrs, hCe]
    exact ⟨hrl, q1⟩
  have hrS : ms_X5_snoop P R = ms_X5_phase P R' 3 := by
    unfold ms_X5_snoop
    exact r2.trans q3
  have hrR : mr_X5_snoop P R = mr_X5_phase P R' 3 := by
    unfold mr_X5_snoop
    exact r3.trans q4
  rw [hms, hrS, hrR]
  have g5 : ms_X0_snoop_L22 5 P C1 (nI 0) (10, 0, 0) 5 = 3 := by rw [q7.2.1 5 (by omega)]; exact f5
  have g11 : ms_X0_snoop_L22 5 P C1 (nI 0) (11, 0, 0) = C1 (11, 0, 0) := q7.1 (11, 0, 0) (by simp) (by simp) (by simp) (by simp)
  have h33 : R' (33, 0, 0) = R (33, 0, 0) := by rw [q6, wk_su_ne _ _ (by simp), wk_up_ne _ _ _ (by simp)]
  obtain ⟨p1, p2, p3⟩ := pm_phase (p := 3) q5 (by omega) (by rw [g5]; rfl) (fun k hk => by
    rw [g11, f11, h33, ← hdn k hk]
    by_cases z : k = 2
    · subst z; simp
    · rw [if_neg z, if_neg (by omega)]
      simp)
  refine ⟨hmg, r1, p2, p3, ?_⟩
  exact pm_snI hP' hI hc hn e6 e8 h7 hst hrq hrd f4 f8 f5 (fb 6 (by omega) (by omega)) (fb 7 (by omega) (by omega)) (fb 8 (by omega) (by omega)) q7
/-- the phase goes from 1 to 2 -/
theorem pm_I.p12 (hI : pm_I P C) (h1 : C (10, 0, 0) 5 = 1) : pm_I P (wk_up (wk_up C (10, 0, 0) 5 2) (11, 0, 0) 1 d) := by
  obtain ⟨i1, i2, i3, i4, i5⟩ := hI
  refine ⟨fun i hi => by simpa [wk_up_at] using i1 i hi, fun i hi => by simpa [pm_hold, wk_up_at] using i2 i hi, fun i j hi hj => by simpa [wk_up_at] using i3 i j hi hj, ?_, fun n' a b hn' ha hb hne q1 q2 => ?_⟩
  · rcases i4 with g | ⟨g1, g2, c, n', hc, hn', g3, g4, g5, g6, g7, g8⟩
    · rw [h1] at g
      exact absurd g (by decide)
    · refine Or.inr ⟨Or.inr (Or.inl (by simp [wk_up_at])), by simpa [wk_up_at] using g2, c, n', hc, hn', by simpa [wk_up_at] using g3, by simpa [wk_up_at] using g4, by simpa [wk_up_at] using g5, by simpa [wk_up_at] using g6, fun e q => g7 (by simpa [wk_up_at] using e) (by simpa [pm_hold, wk_up_at] using q), fun e => ?_⟩
      simp [wk_up_at] at e
  · simpa [wk_up_at] using i5 n' a b hn' ha hb hne (by simpa [pm_hold, wk_up_at] using q1) (by simpa [pm_hold, wk_up_at] using q2)
end PMR
