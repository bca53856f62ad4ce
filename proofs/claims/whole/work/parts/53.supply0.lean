/-! bus: what is kept, and SUPPLY, on both sides. -/
section PMQ
variable {P : Nat → Nat} {C R : wk_Sg} {x y : Int32}
theorem wk_su_comm (sg : wk_Sg) {κ κ' : wk_K3} (k : Nat) (x : Int32) (g : Nat → Int32) (h : κ ≠ κ') : wk_up (wk_su sg κ g) κ' k x = wk_su (wk_up sg κ' k x) κ g := by
  funext j z
  simp only [wk_up_at, wk_su_at]
  by_cases h1 : j = κ
  · subst h1
    simp [h]
  · simp [h1, wk_up_at]
/-- the reference reads the line -/
theorem pr_L7 {w n : Nat} (hw : w ≤ 4) (hb : w * n + w ≤ 64) : ∀ (f k : Nat) (sg : wk_Sg), k ≤ w → w - k < f → sg (20, 0, 0) 2 = nI w → sg (20, 0, 0) 20 = nI n → mg_X5_snoop_L45 5 P (wk_su sg (32, 0, 0) (fun x => if k ≤ x ∧ x < w then sg (21, 0, 0) (w * n + x) else sg (32, 0, 0) x)) 0 → mg_X5_snoop_L7 f P sg (nI k) ∧ ms_X5_snoop_L7 f P sg (nI k) = ms_X5_snoop_L45 5 P (wk_su sg (32, 0, 0) (fun x => if k ≤ x ∧ x < w then sg (21, 0, 0) (w * n + x) else sg (32, 0, 0) x)) 0 ∧ mr_X5_snoop_L7 f P sg (nI k) = mr_X5_snoop_L45 5 P (wk_su sg (32, 0, 0) (fun x => if k ≤ x ∧ x < w then sg (21, 0, 0) (w * n + x) else sg (32, 0, 0) x)) 0 := by
  intro f
  induction f with
  | zero => intro k sg _ h; omega
  | succ f ih =>
    intro k sg hk hf h2 h20 hg
    rw [mg_X5_snoop_L7, ms_X5_snoop_L7, mr_X5_snoop_L7, h2, h20]
    by_cases hkw : k = w
    · subst hkw
      have e : nI k ≤ nI k := (pn_le (by omega) (by omega)).mpr (Nat.le_refl _)
      have es : wk_su sg (32, 0, 0) (fun x => if k ≤ x ∧ x < k then sg (21, 0, 0) (k * n + x) else sg (32, 0, 0) x) = sg := by
        funext κ x
        by_cases hκ : κ = (32, 0, 0)
        · subst hκ
          rw [wk_su_self, if_neg (by omega)]
        · rw [wk_su_ne _ _ hκ]
      rw [es] at hg ⊢
      rw [if_pos e, if_pos e]
      exact ⟨⟨fun _ => hg, fun h => absurd e h⟩, rfl, rfl⟩
    · have hkw : k < w := by omega
      have e : ¬ nI w ≤ nI k := by rw [pn_le (by omega) (by omega)]; omega
      have e1 : nI w * nI n + nI k = nI (w * n + k) := by rw [pn_mul, nI_add]
      have es : wk_su (wk_up sg (32, 0, 0) k (sg (21, 0, 0) (w * n + k))) (32, 0, 0) (fun x => if k + 1 ≤ x ∧ x < w then wk_up sg (32, 0, 0) k (sg (21, 0, 0) (w * n + k)) (21, 0, 0) (w * n + x) else wk_up sg (32, 0, 0) k (sg (21, 0, 0) (w * n + k)) (32, 0, 0) x) = wk_su sg (32, 0, 0) (fun x => if k ≤ x ∧ x < w then sg (21, 0, 0) (w * n + x) else sg (32, 0, 0) x) := by
        rw [wk_su_up]
        congr 1
        funext x
        simp only [wk_up_at]
        by_cases hx : x = k
        · subst hx
          rw [if_neg (by omega), if_pos (by simp), if_pos (by omega)]
        · by_cases hx2 : k + 1 ≤ x ∧ x < w
          · rw [if_pos hx2, if_neg (by simp), if_pos (by omega)]
          · rw [if_neg hx2, if_neg (by simp [hx]), if_neg (by omega)]
      obtain ⟨i1, i2, i3⟩ := ih (k + 1) (wk_up sg (32, 0, 0) k (sg (21, 0, 0) (w * n + k))) (by omega) (by omega) (by simpa [wk_up_at] using h2) (by simpa [wk_up_at] using h20) (by rw [es]; exact hg)
      rw [es] at i2 i3
      rw [e1, pn_clamp (show w * n + k < 4000 by omega), pn_clamp (show k < 4000 by omega), pn_inc, if_neg e, if_neg e]
      exact ⟨⟨fun h => absurd h e, fun _ => ⟨pn_in (by omega) (by omega), pn_in (by omega) (by omega), i1⟩⟩, i2, i3⟩
/-- SUPPLY's end in the reference -/
def pr_st (R : wk_Sg) : Int32 := if R (20, 0, 0) 19 = 2 then 4 else if R (20, 0, 0) 21 = 0 then 2 else 1
def pr_F (R : wk_Sg) (t c : Nat) (st : Int32) : wk_Sg := wk_up (wk_up (wk_up (wk_up (wk_up (wk_up R (30, 0, 0) t (R (20, 0, 0) 20)) (29, 0, 0) t st) (25, 0, 0) c 0) (20, 0, 0) 18 (-1)) (20, 0, 0) 19 0) (20, 0, 0) 20 (-1)
theorem pr_ph4 (sg : wk_Sg) : mg_X5_phase P sg 4 ∧ mr_X5_phase P sg 4 = 4 := by
  unfold mg_X5_phase mr_X5_phase
  have v : vp_in 4 5 := pn_in (a := 4) (by omega) (by omega)
  exact ⟨⟨fun _ => ⟨v, v, trivial⟩, fun _ => ⟨v, v, trivial⟩⟩, by simp⟩
theorem pr_L38 {w t c : Nat} (hw : w ≤ 4) (ht : t < 32) (hc : c < 4) : ∀ (f k : Nat) (sg : wk_Sg), k ≤ w → w - k < f → sg (20, 0, 0) 2 = nI w → sg (20, 0, 0) 18 = nI c → mg_X5_supply_L38 f P sg (nI t) (nI k) ∧ mr_X5_supply_L38 f P sg (nI t) (nI k) = 4 ∧ ms_X5_supply_L38 f P sg (nI t) (nI k) = ms_X5_phase P (pr_F (wk_su sg (31, 0, 0) (fun x => if 4 * t + k ≤ x ∧ x < 4 * t + w then sg (32, 0, 0) (x - 4 * t) else sg (31, 0, 0) x)) t c (pr_st sg)) 4 := by
  intro f
  induction f with
  | zero => intro k sg _ h; omega
  | succ f ih =>
    intro k sg hk hf h2 h18
    rw [mg_X5_supply_L38, ms_X5_supply_L38, mr_X5_supply_L38, h2]
    have vt : vp_in (nI t) 32 := pn_in ht (by omega)
    have vc : vp_in (nI c) 4 := pn_in hc (by omega)
    by_cases hkw : k = w
    · subst hkw
      have e : nI k ≤ nI k := (pn_le (by omega) (by omega)).mpr (Nat.le_refl _)
      have es : wk_su sg (31, 0, 0) (fun x => if 4 * t + k ≤ x ∧ x < 4 * t + k then sg (32, 0, 0) (x - 4 * t) else sg (31, 0, 0) x) = sg := by
        funext κ x
        by_cases hκ : κ = (31, 0, 0)
        · subst hκ
          rw [wk_su_self, if_neg (by omega)]
        · rw [wk_su_ne _ _ hκ]
      rw [es, pn_clamp (show t < 4000 by omega)]
      refine ⟨by simp [e, vt, vc, wk_up_at, h18, (pr_ph4 _).1], by simp [e, (pr_ph4 _).2], ?_⟩
      unfold pr_F pr_st
      rw [if_pos e]
      simp only [wk_up_ne sg (κ := (30, 0, 0)) (κ' := (20, 0, 0)) _ _ (by simp)]
      have z : ∀ st : Int32, wk_up (wk_up sg (30, 0, 0) t (sg (20, 0, 0) 20)) (29, 0, 0) t st (20, 0, 0) 18 = nI c := fun st => by simpa [wk_up_at] using h18
      simp only [z, pn_clamp (show c < 4000 by omega)]
      by_cases k2 : sg (20, 0, 0) 19 = 2
      · rw [if_pos k2, if_pos k2]
      · rw [if_neg k2, if_neg k2]
        by_cases k0 : sg (20, 0, 0) 21 = 0
        · rw [if_pos k0, if_pos k0]
        · rw [if_neg k0, if_neg k0]
    · have hkw : k < w := by omega
      have e : ¬ nI w ≤ nI k := by rw [pn_le (by omega) (by omega)]; omega
      have e1 : (4 : Int32) * nI t + nI k = nI (4 * t + k) := by rw [pn_m4, nI_add]
      have es : wk_su (wk_up sg (31, 0, 0) (4 * t + k) (sg (32, 0, 0) k)) (31, 0, 0) (fun x => if 4 * t + (k + 1) ≤ x ∧ x < 4 * t + w then wk_up sg (31, 0, 0) (4 * t + k) (sg (32, 0, 0) k) (32, 0, 0) (x - 4 * t) else wk_up sg (31, 0, 0) (4 * t + k) (sg (32, 0, 0) k) (31, 0, 0) x) = wk_su sg (31, 0, 0) (fun x => if 4 * t + k ≤ x ∧ x < 4 * t + w then sg (32, 0, 0) (x - 4 * t) else sg (31, 0, 0) x) := by
        rw [wk_su_up]
        congr 1
        funext x
        simp only [wk_up_at]
        by_cases hx : x = 4 * t + k
        · subst hx
          rw [if_neg (by omega), if_pos (by simp), if_pos (by omega)]
          congr 1
          omega
        · by_cases hx2 : 4 * t + (k + 1) ≤ x ∧ x < 4 * t + w
          · rw [if_pos hx2, if_neg (by simp), if_pos (by omega)]
          · rw [if_neg hx2, if_neg (by simp [hx]), if_neg (by omega)]
      obtain ⟨i1, i2, i3⟩ := ih (k + 1) (wk_up sg (31, 0, 0) (4 * t + k) (sg (32, 0, 0) k)) (by omega) (by omega) (by simpa [wk_up_at] using h2) (by simpa [wk_up_at] using h18)
      have ep : pr_st (wk_up sg (31, 0, 0) (4 * t + k) (sg (32, 0, 0) k)) = pr_st sg := by
        unfold pr_st
        rw [wk_up_ne _ _ _ (by simp)]
      rw [es, ep] at i3
      rw [e1, pn_clamp (show 4 * t + k < 4000 by omega), pn_clamp (show k < 4000 by omega), pn_inc, if_neg e, if_neg e]
      refine ⟨⟨fun h => absurd h e, fun _ => ⟨pn_in (by omega) (by omega), pn_in (by omega) (by omega), i1⟩⟩, i2, i3⟩
/-- SUPPLY without the loop -/
theorem pr_tail {t c : Nat} {sg : wk_Sg} (ht : t < 32) (hc : c < 4) (h18 : sg (20, 0, 0) 18 = nI c) (h1 : ¬ sg (20, 0, 0) 19 = 1) (hst : ¬ mr_X5_stateOf P sg (sg (20, 0, 0) 18) (sg (20, 0, 0) 20) = 0) (hat : mr_X5_slotOf P sg (sg (20, 0, 0) 18) (sg (20, 0, 0) 20) = nI t) (hg : mg_X5_slotOf P sg (sg (20, 0, 0) 18) (sg (20, 0, 0) 20)) (hg2 : mg_X5_stateOf P sg (sg (20, 0, 0) 18) (sg (20, 0, 0) 20)) : mg_X5_supply P sg ∧ mr_X5_supply P sg = 4 ∧ ms_X5_supply P sg = ms_X5_phase P (pr_F sg t c (pr_st sg)) 4 := by
  have vt : vp_in (nI t) 32 := pn_in ht (by omega)
  have vc : vp_in (nI c) 4 := pn_in hc (by omega)
  have z : ∀ st : Int32, wk_up (wk_up sg (30, 0, 0) t (sg (20, 0, 0) 20)) (29, 0, 0) t st (20, 0, 0) 18 = nI c := fun st => by simpa [wk_up_at] using h18
  unfold mg_X5_supply mr_X5_supply ms_X5_supply
  simp only [hat, pn_clamp (show t < 4000 by omega), z, pn_clamp (show c < 4000 by omega)]
  refine ⟨by simp [h1, hst, hg, hg2, vt, vc, (pr_ph4 _).1], by simp [h1, hst, (pr_ph4 _).2], ?_⟩
  rw [if_neg h1, if_neg hst]
  unfold pr_F pr_st
  simp only [wk_up_ne sg (κ := (30, 0, 0)) (κ' := (20, 0, 0)) _ _ (by simp)]
  by_cases k2 : sg (20, 0, 0) 19 = 2
  · rw [if_pos k2, if_pos k2]
  · rw [if_neg k2, if_neg k2]
    by_cases k0 : sg (20, 0, 0) 21 = 0
    · rw [if_pos k0, if_pos k0]
    · rw [if_neg k0, if_neg k0]
theorem pr_full {w t c : Nat} {sg : wk_Sg} (hw : w ≤ 4) (ht : t < 32) (hc : c < 4) (h2 : sg (20, 0, 0) 2 = nI w) (h18 : sg (20, 0, 0) 18 = nI c) (h1 : sg (20, 0, 0) 19 = 1 ∨ mr_X5_stateOf P sg (sg (20, 0, 0) 18) (sg (20, 0, 0) 20) = 0) (hat : mr_X5_slotOf P sg (sg (20, 0, 0) 18) (sg (20, 0, 0) 20) = nI t) (hg : mg_X5_slotOf P sg (sg (20, 0, 0) 18) (sg (20, 0, 0) 20)) (hg2 : mg_X5_stateOf P sg (sg (20, 0, 0) 18) (sg (20, 0, 0) 20)) : mg_X5_supply P sg ∧ mr_X5_supply P sg = 4 ∧ ms_X5_supply P sg = ms_X5_phase P (pr_F (wk_su sg (31, 0, 0) (fun x => if 4 * t ≤ x ∧ x < 4 * t + w then sg (32, 0, 0) (x - 4 * t) else sg (31, 0, 0) x)) t c (pr_st sg)) 4 := by
  obtain ⟨i1, i2, i3⟩ := pr_L38 (P := P) hw ht hc 5 0 sg (by omega) (by omega) h2 h18
  rw [show nI 0 = 0 from rfl] at i1 i2 i3
  unfold mg_X5_supply mr_X5_supply ms_X5_supply
  rw [hat]
  by_cases k1 : sg (20, 0, 0) 19 = 1
  · rw [if_pos k1, if_pos k1]
    exact ⟨⟨hg, fun _ => i1, fun h => absurd k1 h⟩, i2, i3⟩
  · have k0 := h1.resolve_left k1
    rw [if_neg k1, if_neg k1, if_pos k0, if_pos k0]
    exact ⟨⟨hg, fun h => absurd h k1, fun _ => ⟨hg2, fun _ => i1, fun h => absurd k0 h⟩⟩, i2, i3⟩
/-- a slot is filled -/
theorem pm_E.fl (hP : pm_P P) (h : pm_E P C R) {i j : Nat} (hi : i < P 0) (hj : j < P 1) {f g : Nat → Int32} {ln st : Int32} (h0 : ¬ st = 0) (hf : ∀ k, k < P 2 → f k = g (4 * (8 * i + j) + k)) (hg : ∀ x, ¬ (4 * (8 * i + j) ≤ x ∧ x < 4 * (8 * i + j) + 4) → g x = R (31, 0, 0) x) : pm_E P (wk_up (wk_su (wk_up C (8, i, j) 2 ln) (9, i, j) f) (8, i, j) 1 st) (wk_up (wk_up (wk_su R (31, 0, 0) g) (30, 0, 0) (8 * i + j) ln) (29, 0, 0) (8 * i + j) st) := by
  obtain ⟨h00, ⟨h1a, h1b⟩, h2, h3, h4, h5, h6, h7, h8, h9⟩ := h
  refine ⟨by simpa [wk_up_at, wk_su_at] using h00, ⟨by simpa [wk_up_at, wk_su_at] using h1a, fun i hi => by simpa [wk_up_at, wk_su_at] using h1b i hi⟩, by simpa [pm_c2, wk_up_at, wk_su_at] using h2, fun b hb => by simpa [wk_up_at, wk_su_at] using h3 b hb, fun i p hi hp => by simpa [wk_up_at, wk_su_at] using h4 i p hi hp, fun i k hi hk => by simpa [wk_up_at, wk_su_at] using h5 i k hi hk, fun i hi => by simpa [wk_up_at, wk_su_at] using h6 i hi, fun i' j' hi' hj' => ?_, by simpa [pm_bux, wk_up_at, wk_su_at] using h8, fun k hk => by simpa [wk_up_at, wk_su_at] using h9 k hk⟩
  unfold pm_P at hP
  obtain ⟨g1, g2, g3⟩ := h7 i' j' hi' hj'
  by_cases e : i' = i ∧ j' = j
  · obtain ⟨rfl, rfl⟩ := e
    refine ⟨by simp [wk_up_at, wk_su_at], by simp [wk_up_at, wk_su_at], fun k hk => ?_⟩
    simp [wk_up_at, wk_su_at, h0, hf k hk]
  · have n1 : ¬ 8 * i' + j' = 8 * i + j := by omega
    have n2 : ¬ ((8, i', j') : wk_K3) = (8, i, j) := by simp; omega
    have n3 : ¬ ((9, i', j') : wk_K3) = (9, i, j) := by simp; omega
    have e1 : wk_up (wk_su (wk_up C (8, i, j) 2 ln) (9, i, j) f) (8, i, j) 1 st (8, i', j') = C (8, i', j') := by rw [wk_up_ne _ _ _ n2, wk_su_ne _ _ (by simp), wk_up_ne _ _ _ n2]
    have e2 : wk_up (wk_su (wk_up C (8, i, j) 2 ln) (9, i, j) f) (8, i, j) 1 st (9, i', j') = C (9, i', j') := by rw [wk_up_ne _ _ _ (by simp), wk_su_ne _ _ n3, wk_up_ne _ _ _ (by simp)]
    rw [e1, e2]
    refine ⟨by simpa [wk_up_at, wk_su_at, n1] using g1, by simpa [wk_up_at, wk_su_at, n1] using g2, fun k hk => ?_⟩
    rw [wk_up_ne _ _ _ (by simp), wk_up_ne _ _ _ (by simp), wk_su_self, hg _ (by omega)]
    exact g3 k hk
theorem pm_E.b5 (h : pm_E P C R) : pm_E P (wk_up C (10, 0, 0) 5 x) R := by
  obtain ⟨h0, ⟨h1a, h1b⟩, h2, h3, h4, h5, h6, h7, h8, h9⟩ := h
  exact ⟨by simpa [wk_up_at] using h0, ⟨by simpa [wk_up_at] using h1a, fun i hi => by simpa [wk_up_at] using h1b i hi⟩, h2, fun b hb => by simpa [wk_up_at] using h3 b hb, fun i p hi hp => by simpa [wk_up_at] using h4 i p hi hp, fun i k hi hk => by simpa [wk_up_at] using h5 i k hi hk, fun i hi => by simpa [wk_up_at] using h6 i hi, fun i j hi hj => by simpa [wk_up_at] using h7 i j hi hj, by simpa [pm_bux, wk_up_at] using h8, fun k hk => by simpa [wk_up_at] using h9 k hk⟩
end PMQ
