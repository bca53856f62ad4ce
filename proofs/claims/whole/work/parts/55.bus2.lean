/-! bus: SUPPLY, and the call. -/
section PMY
variable {P : Nat → Nat} {C R : wk_Sg} {x y d : Int32}
theorem pm_supI (hP : pm_P P) (hI : pm_I P C) {c n : Nat} (hc : c < P 0) (hn : n < P 5) (hrq : C (4, c, 0) 8 = 0) (g8 : ∀ i, i < P 0 → ¬ i = c → pm_hold P C i n → C (10, 0, 0) 7 = 1 ∧ ¬ C (10, 0, 0) 4 = 0 ∧ ¬ C (8, i, n % P 1) 1 = 2 ∧ ¬ C (8, i, n % P 1) 1 = 4) {C' : wk_Sg} {st : Int32} (hst : st = if C (10, 0, 0) 7 = 2 then 4 else if C (10, 0, 0) 4 = 0 then 2 else 1)
    (a6 : C' (4, c, 0) 6 = 0) (a4 : ∀ i k, ¬ (i = c ∧ k = 6) → C' (4, i, 0) k = C (4, i, 0) k) (a8 : ∀ i j, ¬ (i = c ∧ j = n % P 1) → C' (8, i, j) = C (8, i, j)) (a1 : C' (8, c, n % P 1) 1 = st) (a2 : C' (8, c, n % P 1) 2 = nI n) (a5 : C' (10, 0, 0) 5 = 0) : pm_I P C' := by
  obtain ⟨i1, i2, i3, i4, i5⟩ := hI
  have h5 : P 5 < 4000 := by unfold pm_P at hP; omega
  have st0 : ¬ st = 0 := by
    rw [hst]
    split
    · decide
    · split <;> decide
  have hoth : ∀ i m, m < P 5 → (¬ i = c ∨ ¬ m = n) → pm_hold P C' i m → pm_hold P C i m ∧ C' (8, i, m % P 1) = C (8, i, m % P 1) := by
    intro i m hm hne q
    have n2 : ¬ (i = c ∧ m % P 1 = n % P 1) := by
      intro e
      obtain ⟨e1, e2⟩ := e
      subst e1
      have q2 := q.2
      rw [e2, a2, pn_eq (by omega) (by omega)] at q2
      rcases hne with h | h
      · exact h rfl
      · exact h q2.symm
    have e := a8 i (m % P 1) n2
    exact ⟨⟨by rw [← e]; exact q.1, by rw [← e]; exact q.2⟩, e⟩
  refine ⟨fun i hi => ?_, fun i hi => ?_, fun i j hi hj => ?_, Or.inl a5, fun m a b hm ha hb hne q1 q2 => ?_⟩
  · by_cases e : i = c
    · subst e
      exact Or.inl a6
    · rw [a4 i 6 (by omega)]; exact i1 i hi
  · by_cases e : i = c
    · subst e
      rw [a4 i 8 (by omega)]
      exact Or.inl hrq
    · rw [a4 i 8 (by omega), a4 i 6 (by omega), a4 i 9 (by omega)]
      rcases i2 i hi with g | ⟨g1, g2, m, g3, g4, g5⟩
      · exact Or.inl g
      · exact Or.inr ⟨g1, g2, m, g3, g4, fun e' q => g5 e' (hoth i m g3 (Or.inl e) q).1⟩
  · by_cases e : i = c ∧ j = n % P 1
    · obtain ⟨rfl, rfl⟩ := e
      rw [a1, a2]
      exact Or.inr ⟨st0, n, hn, rfl⟩
    · rw [a8 i j e]; exact i3 i j hi hj
  · by_cases hmn : m = n
    · subst hmn
      by_cases hac : a = c
      · subst hac
        obtain ⟨k1, k2⟩ := hoth b m hm (Or.inl (fun z => hne z.symm)) q2
        obtain ⟨w1, w2, w3, w4⟩ := g8 b hb (fun z => hne z.symm) k1
        have s1 : st = 1 := by rw [hst, if_neg (by rw [w1]; decide), if_neg w2]
        rw [a1, s1]
        exact ⟨by decide, by decide, fun z => absurd z.1 (by decide)⟩
      · obtain ⟨k1, k2⟩ := hoth a m hm (Or.inl hac) q1
        obtain ⟨w1, w2, w3, w4⟩ := g8 a ha hac k1
        by_cases hbc : b = c
        · subst hbc
          have s1 : st = 1 := by rw [hst, if_neg (by rw [w1]; decide), if_neg w2]
          rw [k2, a1, s1]
          exact ⟨w3, w4, fun z => absurd z.2 (by decide)⟩
        · obtain ⟨k3, k4⟩ := hoth b m hm (Or.inl hbc) q2
          rw [k2, k4]
          exact i5 m a b hm ha hb hne k1 k3
    · obtain ⟨k1, k2⟩ := hoth a m hm (Or.inr hmn) q1
      obtain ⟨k3, k4⟩ := hoth b m hm (Or.inr hmn) q2
      rw [k2, k4]
      exact i5 m a b hm ha hb hne k1 k3
/-- the component's slot behind SUPPLY, its state aside -/
def pm_tk (P : Nat → Nat) (S : wk_Sg) (c j : Nat) (ln : Int32) : wk_Sg := wk_su (wk_up S (8, c, j) 2 ln) (9, c, j) (va_cpy (S (12, 0, 0)) (S (9, c, j)) 0 0 (P 2))
def pm_cst (S : wk_Sg) : Int32 := if S (10, 0, 0) 7 = 2 then 4 else if S (10, 0, 0) 4 = 0 then 2 else 1
theorem pm_supC (hP : pm_P P) {S : wk_Sg} {c n : Nat} (hn : n < P 5) (s8 : S (10, 0, 0) 8 = nI n) : mg_X0_supply P S c ∧ (pm_hold P S c n → ms_X0_supply P S c = wk_up (wk_up S (8, c, n % P 1) 1 (pm_cst S)) (4, c, 0) 6 0) ∧ (¬ pm_hold P S c n → ms_X0_supply P S c = wk_up (wk_up (pm_tk P S c (n % P 1) (nI n)) (8, c, n % P 1) 1 (pm_cst S)) (4, c, 0) 6 0) := by
  have hn4 : n < 4000 := by unfold pm_P at hP; omega
  have hp2 : P 2 < 4000 := by unfold pm_P at hP; omega
  have hm := pm_mod hP n
  have hsf := pm_slotFor hP (sg := S) (i := c) hn4
  have hcp : wk_cp 0 0 (nI (P 2)) (P 2) (P 2) := by
    refine ⟨by decide, by decide, pn_nneg hp2, ?_, ?_⟩ <;> (rw [pn_clamp hp2]; show 0 + P 2 ≤ P 2; omega)
  have htk : ms_X3_take P S c (n % P 1) (nI n) = pm_tk P S c (n % P 1) (nI n) := by
    unfold ms_X3_take pm_tk
    rw [pn_clamp hp2, wk_up_ne _ _ _ (by simp), wk_up_ne _ _ _ (by simp)]
    rfl
  have htg : mg_X3_take P S c (n % P 1) (nI n) := ⟨hcp, trivial⟩
  have tb : ∀ q, pm_tk P S c (n % P 1) (nI n) (10, 0, 0) q = S (10, 0, 0) q := fun q => by
    unfold pm_tk
    simp [wk_up_at, wk_su_at]
  unfold mg_X0_supply ms_X0_supply
  rw [s8, pm_idx hP hn4, pn_clamp hm.2, htk, tb, tb]
  refine ⟨⟨hsf, fun _ => ⟨htg, ?_⟩, fun _ => ?_⟩, fun hh => ?_, fun hh => ?_⟩
  · simp
  · simp
  · have h1 : mr_X3_holds P S c (n % P 1) (nI n) = 1 := by
      rcases pm_holds (P := P) (C := S) (i := c) (n := n) with q | q
      · exact q.1
      · exact absurd hh q.2
    rw [h1, if_neg (by decide)]
    unfold pm_cst
    by_cases k2 : S (10, 0, 0) 7 = 2
    · rw [if_pos k2, if_pos k2]
    · rw [if_neg k2, if_neg k2]
      by_cases k0 : S (10, 0, 0) 4 = 0
      · rw [if_pos k0, if_pos k0]
      · rw [if_neg k0, if_neg k0]
  · have h1 : mr_X3_holds P S c (n % P 1) (nI n) = 0 := by
      rcases pm_holds (P := P) (C := S) (i := c) (n := n) with q | q
      · exact absurd q.2 hh
      · exact q.1
    rw [h1, if_pos rfl]
    unfold pm_cst
    by_cases k2 : S (10, 0, 0) 7 = 2
    · rw [if_pos k2, if_pos k2]
    · rw [if_neg k2, if_neg k2]
      by_cases k0 : S (10, 0, 0) 4 = 0
      · rw [if_pos k0, if_pos k0]
      · rw [if_neg k0, if_neg k0]
theorem pm_supply (hP : pm_P P) (hD : pm_D P C R) (hI : pm_I P C) {c n : Nat} (hc : c < P 0) (hn : n < P 5) (e6 : C (10, 0, 0) 6 = nI c) (e8 : C (10, 0, 0) 8 = nI n) (h7 : C (10, 0, 0) 7 = 1 ∨ C (10, 0, 0) 7 = 2) (hrq : C (4, c, 0) 8 = 0) (hrd : C (10, 0, 0) 7 = 1 → ¬ pm_hold P C c n) (g8 : ∀ i, i < P 0 → ¬ i = c → pm_hold P C i n → C (10, 0, 0) 7 = 1 ∧ ¬ C (10, 0, 0) 4 = 0 ∧ ¬ C (8, i, n % P 1) 1 = 2 ∧ ¬ C (8, i, n % P 1) 1 = 4) :
    mg_X0_supply P (wk_up (wk_up C (10, 0, 0) 5 4) (11, 0, 0) 3 (C (11, 0, 0) 3 + 1)) c ∧ mg_X5_supply P R ∧ mr_X5_supply P R = 4 ∧ pm_D P (ms_X0_end P (ms_X0_supply P (wk_up (wk_up C (10, 0, 0) 5 4) (11, 0, 0) 3 (C (11, 0, 0) 3 + 1)) c)) (ms_X5_supply P R) ∧ pm_I P (ms_X0_end P (ms_X0_supply P (wk_up (wk_up C (10, 0, 0) 5 4) (11, 0, 0) 3 (C (11, 0, 0) 3 + 1)) c)) := by
  have hE := hD.e.ph (x := 4) (y := C (11, 0, 0) 3 + 1) 3
  have hP' := hP
  have c1 : R (20, 0, 0) 1 = nI (P 1) := hD.2.2.1.2.1
  have c2 : R (20, 0, 0) 2 = nI (P 2) := hD.2.2.1.2.2.1
  obtain ⟨-, b2, b3, b4, b5⟩ := hD.2.2.2.2.2.2.2.2.1
  have m6 : R (20, 0, 0) 18 = nI c := by rw [← b2]; exact e6
  have m8 : R (20, 0, 0) 20 = nI n := by rw [← b4]; exact e8
  have hdn := hD.2.2.2.2.2.2.2.2.2.2
  have hm := pm_mod hP n
  unfold pm_P at hP
  have hn4 : n < 4000 := by omega
  have hst0 := pr_stateOf hP' hD hI hc hn
  have hso := pr_slotOf hP' c1 (i := c) hn4
  have hsg := pr_slotOfg hP' c1 (nI c) (nI n)
  have htg := pr_stateOfg hP' c1 hc hn4
  generalize hSe : wk_up (wk_up C (10, 0, 0) 5 4) (11, 0, 0) 3 (C (11, 0, 0) 3 + 1) = S at hE ⊢
  have sb : ∀ q, ¬ q = 5 → S (10, 0, 0) q = C (10, 0, 0) q := fun q h => by rw [← hSe]; simp [wk_up_at, h]
  have s11 : ∀ k, S (11, 0, 0) k = if k = 3 then C (11, 0, 0) 3 + 1 else C (11, 0, 0) k := fun k => by rw [← hSe]; simp [wk_up_at]
  have so : ∀ κ : wk_K3, ¬ κ = (10, 0, 0) → ¬ κ = (11, 0, 0) → S κ = C κ := fun κ h1 h2 => by rw [← hSe, wk_up_ne _ _ _ h2, wk_up_ne _ _ _ h1]
  have shold : pm_hold P S c n ↔ pm_hold P C c n := by
    unfold pm_hold
    rw [so (8, c, n % P 1) (by simp) (by simp)]
  have hcs : pm_cst S = pr_st R := by
    unfold pm_cst pr_st
    rw [sb 7 (by omega), sb 4 (by omega), b3, b5]
  have hcs2 : pm_cst S = if C (10, 0, 0) 7 = 2 then 4 else if C (10, 0, 0) 4 = 0 then 2 else 1 := by
    unfold pm_cst
    rw [sb 7 (by omega), sb 4 (by omega)]
  have cs0 : ¬ pm_cst S = 0 := by
    unfold pm_cst
    split
    · decide
    · split <;> decide
  obtain ⟨u1, u2, u3⟩ := pm_supC hP' (S := S) (c := c) hn (by rw [sb 8 (by omega)]; exact e8)
  -- the end of both, from the slot on
  have fin : ∀ (C2 R2 : wk_Sg), pm_E P C2 (wk_up (wk_up R2 (30, 0, 0) (8 * c + n % P 1) (nI n)) (29, 0, 0) (8 * c + n % P 1) (pm_cst S)) → R2 (20, 0, 0) 20 = nI n → R2 (33, 0, 0) = R (33, 0, 0) → (∀ k, C2 (11, 0, 0) k = S (11, 0, 0) k) → pm_D P (ms_X0_end P (wk_up C2 (4, c, 0) 6 0)) (ms_X5_phase P (pr_F R2 (8 * c + n % P 1) c (pr_st R)) 4) := by
    intro C2 R2 hE2 h20 h33 h11
    have hE3 : pm_E P (ms_X0_end P (wk_up C2 (4, c, 0) 6 0)) (pr_F R2 (8 * c + n % P 1) c (pr_st R)) := by
      unfold ms_X0_end pr_F
      rw [h20, ← hcs]
      exact ((((hE2.cp (i := c) (k := 6) (t := 25) (Or.inr (Or.inl ⟨rfl, rfl⟩)) rfl).b5).bu (k := 6) (t := 18) (Or.inl ⟨rfl, rfl⟩) rfl).bu (k := 7) (t := 19) (Or.inr (Or.inl ⟨rfl, rfl⟩)) rfl).bu (k := 8) (t := 20) (Or.inr (Or.inr (Or.inl ⟨rfl, rfl⟩))) rfl
    refine (pm_phase (p := 4) hE3 (by omega) (by unfold ms_X0_end; simp [wk_up_at]) (fun k hk => ?_)).2.2
    have e1 : ms_X0_end P (wk_up C2 (4, c, 0) 6 0) (11, 0, 0) k = S (11, 0, 0) k := by
      unfold ms_X0_end
      simpa [wk_up_at] using h11 k
    have e2 : pr_F R2 (8 * c + n % P 1) c (pr_st R) (33, 0, 0) = R (33, 0, 0) := by
      unfold pr_F
      rw [wk_up_ne _ _ _ (by simp), wk_up_ne _ _ _ (by simp), wk_up_ne _ _ _ (by simp), wk_up_ne _ _ _ (by simp), wk_up_ne _ _ _ (by simp), wk_up_ne _ _ _ (by simp)]
      exact h33
    rw [e1, e2, s11, ← hdn k hk]
    by_cases z : k = 3
    · subst z; simp
    · rw [if_neg z, if_neg (by omega)]
      simp
  have inv : ∀ C2 : wk_Sg, (∀ i k, C2 (4, i, 0) k = C (4, i, 0) k) → (∀ i j, ¬ (i = c ∧ j = n % P 1) → C2 (8, i, j) = C (8, i, j)) → C2 (8, c, n % P 1) 1 = pm_cst S → C2 (8, c, n % P 1) 2 = nI n → pm_I P (ms_X0_end P (wk_up C2 (4, c, 0) 6 0)) := by
    intro C2 z4 z8 z1 z2
    refine pm_supI hP' hI hc hn hrq g8 hcs2 ?_ (fun i k h => ?_) (fun i j h => ?_) ?_ ?_ ?_
    · unfold ms_X0_end; simp [wk_up_at]
    · unfold ms_X0_end
      have : ¬ (((4, i, 0) : wk_K3) = (4, c, 0) ∧ k = 6) := by simp; omega
      rw [wk_up_ne _ _ _ (by simp), wk_up_ne _ _ _ (by simp), wk_up_ne _ _ _ (by simp), wk_up_ne _ _ _ (by simp), wk_up_at, if_neg this]
      exact z4 i k
    · unfold ms_X0_end
      rw [wk_up_ne _ _ _ (by simp), wk_up_ne _ _ _ (by simp), wk_up_ne _ _ _ (by simp), wk_up_ne _ _ _ (by simp), wk_up_ne _ _ _ (by simp)]
      exact z8 i j h
    · unfold ms_X0_end
      rw [wk_up_ne _ _ _ (by simp), wk_up_ne _ _ _ (by simp), wk_up_ne _ _ _ (by simp), wk_up_ne _ _ _ (by simp), wk_up_ne _ _ _ (by simp)]
      exact z1
    · unfold ms_X0_end
      rw [wk_up_ne _ _ _ (by simp), wk_up_ne _ _ _ (by simp), wk_up_ne _ _ _ (by simp), wk_up_ne _ _ _ (by simp), wk_up_ne _ _ _ (by simp)]
      exact z2
    · unfold ms_X0_end; simp [wk_up_at]
  by_cases hh : pm_hold P C c n
  · have h71 : ¬ C (10, 0, 0) 7 = 1 := fun e => hrd e hh
    have s0 : ¬ mr_X5_stateOf P R (nI c) (nI n) = 0 := by
      rcases hst0 with q | q
      · exact q.2.2
      · exact absurd hh q.1
    obtain ⟨v1, v2, v3⟩ := pr_tail (P := P) (sg := R) (t := 8 * c + n % P 1) (c := c) (by omega) (by omega) m6 (by rw [← b3]; exact h71) (by rw [m6, m8]; exact s0) (by rw [m6, m8]; exact hso) (by rw [m6, m8]; exact hsg) (by rw [m6, m8]; exact htg)
    rw [u2 (shold.mpr hh), v3]
    have hl30 : R (30, 0, 0) (8 * c + n % P 1) = nI n := by rw [← (hD.2.2.2.2.2.2.2.1 c (n % P 1) hc hm.1).2.1]; exact hh.2
    have hid : wk_up R (30, 0, 0) (8 * c + n % P 1) (nI n) = R := by rw [← hl30]; exact wk_up_id _ _ _
    refine ⟨u1, v1, v2, fin _ R ?_ m8 rfl (fun k => by simp [wk_up_at]), inv _ (fun i k => ?_) (fun i j h => ?_) (by simp [wk_up_at]) ?_⟩
    · rw [hid]
      exact hE.s4 hP' hc hm.1 (by rw [so (8, c, n % P 1) (by simp) (by simp)]; exact hh.1) rfl cs0
    · rw [wk_up_ne _ _ _ (by simp), so _ (by simp) (by simp)]
    · rw [wk_up_ne _ _ _ (by simp; omega), so _ (by simp) (by simp)]
    · rw [wk_up_at, if_neg (by simp), so _ (by simp) (by simp)]
      exact hh.2
  · have s0 : mr_X5_stateOf P R (nI c) (nI n) = 0 := by
      rcases hst0 with q | q
      · exact absurd q.1 hh
      · exact q.2
    obtain ⟨v1, v2, v3⟩ := pr_full (P := P) (sg := R) (w := P 2) (t := 8 * c + n % P 1) (c := c) (by omega) (by omega) (by omega) c2 m6 (Or.inr (by rw [m6, m8]; exact s0)) (by rw [m6, m8]; exact hso) (by rw [m6, m8]; exact hsg) (by rw [m6, m8]; exact htg)
    rw [u3 (fun q => hh (shold.mp q)), v3]
    have hkp := hD.2.2.2.2.2.2.2.2.2.1
    refine ⟨u1, v1, v2, fin _ _ ?_ (by rw [wk_su_ne _ _ (by simp)]; exact m8) (by rw [wk_su_ne _ _ (by simp)]) (fun k => by unfold pm_tk; simp [wk_up_at, wk_su_at]), inv _ (fun i k => ?_) (fun i j h => ?_) (by simp [wk_up_at]) ?_⟩
    · unfold pm_tk
      refine hE.fl hP' hc hm.1 cs0 (fun k hk => ?_) (fun x hx => ?_)
      · rw [if_pos (by omega), so (12, 0, 0) (by simp) (by simp), show 4 * (8 * c + n % P 1) + k - 4 * (8 * c + n % P 1) = k by omega, ← hkp k hk]
        simp [va_cpy, hk]
      · rw [if_neg (by omega)]
    · unfold pm_tk
      rw [wk_up_ne _ _ _ (by simp), wk_su_ne _ _ (by simp), wk_up_ne _ _ _ (by simp), so _ (by simp) (by simp)]
    · unfold pm_tk
      rw [wk_up_ne _ _ _ (by simp; omega), wk_su_ne _ _ (by simp), wk_up_ne _ _ _ (by simp; omega), so _ (by simp) (by simp)]
    · unfold pm_tk
      simp [wk_up_at, wk_su_at]
set_option maxHeartbeats 4000000 in
theorem pm_bus_ (hP : pm_P P) (hD : pm_D P C R) (hI : pm_I P C) : (mg_X4_bus P C ∧ mg_X5_bus P R ∧ mr_X4_bus P C = mr_X5_bus P R) ∧ pm_D P (ms_X4_bus P C) (ms_X5_bus P R) ∧ pm_I P (ms_X4_bus P C) := by
  rcases hI.2.2.2.1 with g | ⟨g1, g2, c, n, hc, hn, e6, e8, hst, hrq, hrd, hsn⟩
  · exact pm_bus0 hP hD hI g
  · have hP' := hP
    have c1 : R (20, 0, 0) 1 = nI (P 1) := hD.2.2.1.2.1
    obtain ⟨b1, b2, b3, b4, b5⟩ := hD.2.2.2.2.2.2.2.2.1
    have hdn := hD.2.2.2.2.2.2.2.2.2.2
    have m6 : R (20, 0, 0) 18 = nI c := by rw [← b2]; exact e6
    have m8 : R (20, 0, 0) 20 = nI n := by rw [← b4]; exact e8
    have hm := pm_mod hP n
    have hsl := hD.2.2.2.2.2.2.2.1 c (n % P 1) hc hm.1
    unfold pm_P at hP
    have hn4 : n < 4000 := by omega
    have hc4 : c < 4000 := by omega
    have hw : mr_X4_within P C (nI c) (nI (P 0)) = 1 := pm_win hc (by omega)
    have hv : vp_in (nI c) (P 0) := pn_in hc (by omega)
    have hso := pr_slotOf hP' c1 (i := c) hn4
    have hsg := pr_slotOfg hP' c1 (nI c) (nI n)
    have hsf : ∀ sg : wk_Sg, mg_X1_slotFor P sg c (nI n) := fun sg => pm_slotFor hP' hn4
    have vt : vp_in (nI (8 * c + n % P 1)) 32 := pn_in (by omega) (by omega)
    have ht4 : 8 * c + n % P 1 < 4000 := by omega
    have i3 := hI.2.2.1 c (n % P 1) hc hm.1
    have idx : ∀ sg : wk_Sg, mr_X1_indexFor P sg c (nI n) = nI (n % P 1) := fun sg => pm_idx hP' hn4
    have v3 : vp_in 3 4 := pn_in (a := 3) (by omega) (by omega)
    have v2 : vp_in 2 4 := pn_in (a := 2) (by omega) (by omega)
    have v1 : vp_in 1 4 := pn_in (a := 1) (by omega) (by omega)
    have z3 : Int32.toNatClampNeg ((4 : Int32) - 1) = 3 := by decide
    have z2 : Int32.toNatClampNeg ((3 : Int32) - 1) = 2 := by decide
    have z1 : Int32.toNatClampNeg ((2 : Int32) - 1) = 1 := by decide
    unfold mg_X4_bus mr_X4_bus ms_X4_bus mg_X0_doNextPhase mr_X0_doNextPhase ms_X0_doNextPhase mg_X5_bus mr_X5_bus ms_X5_bus
    simp only [← b1, m6, m8, hso, pn_clamp ht4, e6, hw, pn_clamp hc4, ← hsl.1, ← hsl.2.1]
    -- SNOOP, from phase 1 or 2
    obtain ⟨s1, s2, s3, s4, s5⟩ := pm_snoop hP' hD hI hc hn e6 e8 g2 hst hrq hrd
    have n11 : ∀ (a : Int32) k, wk_up C (10, 0, 0) 5 a (11, 0, 0) k = C (11, 0, 0) k := fun a k => by simp [wk_up_at]
    rcases g1 with g1 | g1 | g1
    · -- phase 1
      have hmw : mr_X0_phaseAfter P C 1 c = if mr_X0_mustWriteBack P C c (n % P 1) = 0 then 3 else 2 := by
        unfold mr_X0_phaseAfter
        rw [e8, idx, pn_clamp hm.2, if_neg (by decide), if_pos rfl]
      have hmg : mg_X0_phaseAfter P C 1 c := by
        unfold mg_X0_phaseAfter
        rw [e8]
        exact ⟨fun h => absurd h (by decide), fun _ => ⟨fun _ => ⟨hsf C, fun _ => trivial, fun _ => trivial⟩, fun h => absurd rfl h⟩⟩
      by_cases hd : pm_new C c (n % P 1) ∧ ¬ C (8, c, n % P 1) 2 = nI n
      · -- WRITE BACK
        have hmu : mr_X0_mustWriteBack P C c (n % P 1) = 1 := by
          unfold mr_X0_mustWriteBack
          rw [e8]
          rcases pm_dirtyC (P := P) (C := C) (i := c) (j := n % P 1) with q | q
          · rw [q.1, if_neg (by decide), if_neg hd.2]
          · exact absurd hd.1 q.2
        have hnow : mr_X0_phaseAfter P C 1 c = 2 := by rw [hmw, hmu, if_neg (by decide)]
        have hdr : mr_X5_isDirty P R (C (8, c, n % P 1) 1) = 1 := by
          rcases pm_dirtyR (P := P) (sg := R) (x := C (8, c, n % P 1) 1) with q | q
          · exact q.1
          · exact absurd hd.1 q.2
        obtain ⟨n', hn', hl'⟩ : ∃ n', n' < P 5 ∧ C (8, c, n % P 1) 2 = nI n' := by
          rcases i3 with q | q
          · exact absurd q.1 hd.1.ne
          · exact q.2
        have hE := hD.e.ph (x := 2) (y := C (11, 0, 0) 1 + 1) 1
        have hSI := (hI.p12 g1 (d := C (11, 0, 0) 1 + 1)).gu (i := c) (j := n % P 1) hP'
        have z8 : ∀ k, wk_up (wk_up C (10, 0, 0) 5 2) (11, 0, 0) 1 (C (11, 0, 0) 1 + 1) (8, c, n % P 1) k = C (8, c, n % P 1) k := fun k => by simp [wk_up_at]
        have zb : wk_up (wk_up C (10, 0, 0) 5 2) (11, 0, 0) 1 (C (11, 0, 0) 1 + 1) (10, 0, 0) 8 = nI n := by simpa [wk_up_at] using e8
        obtain ⟨q1, q2, q3, q4⟩ := pm_gu1e hP' hE hc hm.1 (by unfold pm_new; rw [z8]; exact hd.1) hn' (by rw [z8]; exact hl')
        have hb' : P 2 * n' + P 2 ≤ 64 := by
          have : P 2 * (n' + 1) ≤ P 2 * P 5 := Nat.mul_le_mul_left _ hn'
          rw [Nat.mul_succ] at this
          omega
        have h33 : ms_X5_empty P (ms_X5_writeBack P R (nI (8 * c + n % P 1))) (nI (8 * c + n % P 1)) (33, 0, 0) = R (33, 0, 0) := by
          rw [(pr_empty (P := P) (t := 8 * c + n % P 1) (by omega)).2, (pr_back (P := P) (sg := R) (t := 8 * c + n % P 1) (w := P 2) (ln := n') (by omega) (by omega) hb' hD.2.2.1.2.2.1 (by rw [← hsl.2.1]; exact hl')).2]
          unfold pr_E pr_W
          rw [wk_su_ne _ _ (by simp), wk_up_ne _ _ _ (by simp), wk_up_ne _ _ _ (by simp), wk_su_ne _ _ (by simp)]
        obtain ⟨p1, p2, p3⟩ := pm_phase (p := 2) q4 (by omega) (by rw [pm_guo (by simp) (by simp)]; simp [wk_up_at]; rfl) (fun k hk => by
          rw [pm_guo (by simp) (by simp), h33, ← hdn k hk]
          by_cases z : k = 1
          · subst z; simp [wk_up_at]
          · simp [wk_up_at, z])
        simp only [g1, hnow, z1, n11, zb, idx, pn_clamp hm.2, hdr]
        refine ⟨⟨?_, ?_, ?_⟩, ?_, ?_⟩
        · simp [hv, hmg, v1, hsf, q1]
        · have p1' : mg_X5_phase P (ms_X5_empty P (ms_X5_writeBack P R (nI (8 * c + n % P 1))) (nI (8 * c + n % P 1))) 2 := p1
          simp [hsg, vt, hd.2, q2, q3, p1']
        · have p2' : mr_X5_phase P (ms_X5_empty P (ms_X5_writeBack P R (nI (8 * c + n % P 1))) (nI (8 * c + n % P 1))) 2 = 2 := p2
          simp [hd.2, p2']
        · have p3' : pm_D P (ms_X2_giveUp P (wk_up (wk_up C (10, 0, 0) 5 2) (11, 0, 0) 1 (C (11, 0, 0) 1 + 1)) c (n % P 1)) (ms_X5_phase P (ms_X5_empty P (ms_X5_writeBack P R (nI (8 * c + n % P 1))) (nI (8 * c + n % P 1))) 2) := p3
          simpa [hd.2] using p3'
        · simpa using hSI
      · -- SNOOP from phase 1
        have hmu : mr_X0_mustWriteBack P C c (n % P 1) = 0 := by
          unfold mr_X0_mustWriteBack
          rw [e8]
          rcases pm_dirtyC (P := P) (C := C) (i := c) (j := n % P 1) with q | q
          · rw [q.1, if_neg (by decide)]
            by_cases z : C (8, c, n % P 1) 2 = nI n
            · rw [if_pos z]
            · exact absurd ⟨q.2, z⟩ hd
          · rw [q.1, if_pos rfl]
        have hnow : mr_X0_phaseAfter P C 1 c = 3 := by rw [hmw, hmu, if_pos rfl]
        simp only [g1, hnow, z2, n11]
        by_cases z : C (8, c, n % P 1) 2 = nI n
        · refine ⟨⟨?_, ?_, ?_⟩, ?_, ?_⟩
          · simp [hv, hmg, v2, s1]
          · simp [hsg, vt, z, s2]
          · simp [z, s3]
          · simpa [z] using s4
          · simpa using s5
        · have hdr : mr_X5_isDirty P R (C (8, c, n % P 1) 1) = 0 := by
            rcases pm_dirtyR (P := P) (sg := R) (x := C (8, c, n % P 1) 1) with q | q
            · exact absurd ⟨q.2, z⟩ hd
            · exact q.1
          refine ⟨⟨?_, ?_, ?_⟩, ?_, ?_⟩
          · simp [hv, hmg, v2, s1]
          · simp [hsg, vt, z, hdr, s2]
          · simp [z, hdr, s3]
          · simpa [z, hdr] using s4
          · simpa using s5
    · -- SNOOP from phase 2
      have hnow : mr_X0_phaseAfter P C 2 c = 3 := by
        unfold mr_X0_phaseAfter
        rw [if_neg (by decide), if_neg (by decide), if_pos rfl]
      have hmg : mg_X0_phaseAfter P C 2 c := by
        unfold mg_X0_phaseAfter
        exact ⟨fun h => absurd h (by decide), fun _ => ⟨fun h => absurd h (by decide), fun _ => ⟨fun _ => trivial, fun h => absurd rfl h⟩⟩⟩
      simp only [g1, hnow, z2, n11]
      refine ⟨⟨?_, ?_, ?_⟩, ?_, ?_⟩
      · simp [hv, hmg, v2, s1]
      · simp [hsg, s2]
      · simp [s3]
      · simpa using s4
      · simpa using s5
    · -- SUPPLY
      have hnow : mr_X0_phaseAfter P C 3 c = 4 := by
        unfold mr_X0_phaseAfter
        rw [if_neg (by decide), if_neg (by decide), if_neg (by decide)]
      have hmg : mg_X0_phaseAfter P C 3 c := by
        unfold mg_X0_phaseAfter
        exact ⟨fun h => absurd h (by decide), fun _ => ⟨fun h => absurd h (by decide), fun _ => ⟨fun h => absurd h (by decide), fun _ => trivial⟩⟩⟩
      obtain ⟨t1, t2, t3, t4, t5⟩ := pm_supply hP' hD hI hc hn e6 e8 g2 hrq hrd (hsn g1)
      simp only [g1, hnow, z3, n11]
      refine ⟨⟨?_, ?_, ?_⟩, ?_, ?_⟩
      · simp [hv, hmg, v3, t1]
      · simp [t2]
      · simp [t3]
      · simpa using t4
      · simpa using t5
end PMY
