/-! bus: SNOOP, one onlooker on both sides. -/
section PMN
variable {P : Nat → Nat} {C R : wk_Sg} {x y : Int32}
theorem pr_stateOf3 (hP : pm_P P) (hE : pm_E P C R) (h3 : pm_i3 P C) {i n : Nat} (hi : i < P 0) (hn : n < P 5) : (pm_hold P C i n ∧ mr_X5_stateOf P R (nI i) (nI n) = C (8, i, n % P 1) 1 ∧ ¬ mr_X5_stateOf P R (nI i) (nI n) = 0) ∨ (¬ pm_hold P C i n ∧ mr_X5_stateOf P R (nI i) (nI n) = 0) := by
  have hm := pm_mod hP n
  have hn4 : n < 4000 := by unfold pm_P at hP; omega
  obtain ⟨g1, g2, -⟩ := hE.2.2.2.2.2.2.2.1 i (n % P 1) hi hm.1
  have hi4 : 8 * i + n % P 1 < 4000 := by unfold pm_P at hP; omega
  unfold mr_X5_stateOf
  rw [pr_slotOf hP hE.2.2.1.2.1 hn4, pn_clamp hi4, ← g1, ← g2]
  by_cases h2 : C (8, i, n % P 1) 2 = nI n
  · rw [if_pos h2]
    rcases h3 i (n % P 1) hi hm.1 with q | q
    · rw [q.2] at h2
      exact absurd h2 (pn_neg1 hn4)
    · exact Or.inl ⟨⟨q.1, h2⟩, rfl, q.1⟩
  · rw [if_neg h2]
    exact Or.inr ⟨fun q => h2 q.2, rfl⟩
theorem pm_E.kp (h : pm_E P C R) {f g : Nat → Int32} (hfg : ∀ k, k < P 2 → f k = g k) : pm_E P (wk_su C (12, 0, 0) f) (wk_su R (32, 0, 0) g) := by
  obtain ⟨h0, ⟨h1a, h1b⟩, h2, h3, h4, h5, h6, h7, h8, h9⟩ := h
  refine ⟨by simpa [wk_su_at] using h0, ⟨by simpa [wk_su_at] using h1a, fun i hi => by simpa [wk_su_at] using h1b i hi⟩, by simpa [pm_c2, wk_su_at] using h2, fun b hb => by simpa [wk_su_at] using h3 b hb, fun i p hi hp => by simpa [wk_su_at] using h4 i p hi hp, fun i k hi hk => by simpa [wk_su_at] using h5 i k hi hk, fun i hi => by simpa [wk_su_at] using h6 i hi, fun i j hi hj => by simpa [wk_su_at] using h7 i j hi hj, by simpa [pm_bux, wk_su_at] using h8, fun k hk => ?_⟩
  rw [wk_su_self, wk_su_self]
  exact hfg k hk
/-- the inner loop of the reference's snoop -/
theorem pr_L93 {w t : Nat} {v st : Int32} (hw : w ≤ 4) (ht : t < 32) (hd : ∀ sg : wk_Sg, mr_X5_isDirty P sg st = 1) : ∀ (f k : Nat) (sg : wk_Sg), k ≤ w → w - k < f → sg (20, 0, 0) 2 = nI w → mg_X5_snoop_L93 f P sg v (nI t) st (nI k) ∧ ms_X5_snoop_L93 f P sg v (nI t) st (nI k) = wk_su sg (32, 0, 0) (fun x => if k ≤ x ∧ x < w then sg (31, 0, 0) (4 * t + x) else sg (32, 0, 0) x) := by
  intro f
  induction f with
  | zero => intro k sg _ h; omega
  | succ f ih =>
    intro k sg hk hf h2
    rw [mg_X5_snoop_L93, ms_X5_snoop_L93, h2, hd sg]
    by_cases hkw : k = w
    · subst hkw
      have e : nI k ≤ nI k := (pn_le (by omega) (by omega)).mpr (Nat.le_refl _)
      refine ⟨by simp [e], ?_⟩
      rw [if_pos e]
      funext κ x
      by_cases hκ : κ = (32, 0, 0)
      · subst hκ
        rw [wk_su_self, if_neg (by omega)]
      · rw [wk_su_ne _ _ hκ]
    · have hkw : k < w := by omega
      have e : ¬ nI w ≤ nI k := by rw [pn_le (by omega) (by omega)]; omega
      have e2 : (4 : Int32) * nI t + nI k = nI (4 * t + k) := by rw [pn_m4, nI_add]
      rw [e2, pn_clamp (show k < 4000 by omega), pn_clamp (show 4 * t + k < 4000 by omega), pn_inc, if_neg e, if_neg (by decide)]
      obtain ⟨i1, i2⟩ := ih (k + 1) (wk_up sg (32, 0, 0) k (sg (31, 0, 0) (4 * t + k))) (by omega) (by omega) (by simpa [wk_up_at] using h2)
      refine ⟨⟨fun h => absurd h e, fun _ => ⟨fun h => absurd h (by decide), fun _ => ⟨pn_in (by omega) (by omega), pn_in (by omega) (by omega), i1⟩⟩⟩, ?_⟩
      rw [i2, wk_su_up]
      congr 1
      funext x
      simp only [wk_up_at]
      by_cases hx : x = k
      · subst hx
        rw [if_neg (by omega), if_pos (by simp), if_pos (by omega)]
      · by_cases hx2 : k + 1 ≤ x ∧ x < w
        · rw [if_pos hx2, if_neg (by simp), if_pos (by omega)]
        · rw [if_neg hx2, if_neg (by simp [hx]), if_neg (by omega)]
theorem pr_L93z {w : Nat} {v a st : Int32} {f : Nat} {sg : wk_Sg} (hd : mr_X5_isDirty P sg st = 0) : mg_X5_snoop_L93 (f + 1) P sg v a st (nI w) ∧ ms_X5_snoop_L93 (f + 1) P sg v a st (nI w) = sg := by
  rw [mg_X5_snoop_L93, ms_X5_snoop_L93, hd]
  refine ⟨⟨fun _ => trivial, fun _ => ⟨fun _ => trivial, fun h => absurd rfl h⟩⟩, ?_⟩
  rw [if_pos rfl]
  split <;> rfl
/-- letOthersRead -/
def pm_lor (x : Int32) : Int32 := if x = 4 then 3 else if x = 2 then 1 else x
theorem pm_lorR {S : wk_Sg} {i j : Nat} : ms_X3_letOthersRead P S i j = wk_up S (8, i, j) 1 (pm_lor (S (8, i, j) 1)) := by
  unfold ms_X3_letOthersRead pm_lor
  by_cases h4 : S (8, i, j) 1 = 4
  · rw [if_pos h4, if_pos h4]
  · by_cases h2 : S (8, i, j) 1 = 2
    · rw [if_neg h4, if_pos h2, if_neg h4, if_pos h2]
    · rw [if_neg h4, if_neg h2, if_neg h4, if_neg h2, wk_up_id]
theorem pm_lor0 {x : Int32} (h : ¬ x = 0) : ¬ pm_lor x = 0 := by
  unfold pm_lor
  split
  · decide
  · split
    · decide
    · exact h
/-- the state in which lookOn goes on: the flag, and what is kept -/
def pm_lk (P : Nat → Nat) (C : wk_Sg) (i j : Nat) : wk_Sg := if mr_X3_isNewerThanMemory P C i j = 0 then wk_up C (10, 0, 0) 4 1 else wk_su (wk_up C (10, 0, 0) 4 1) (12, 0, 0) (va_cpy (C (9, i, j)) (C (12, 0, 0)) 0 0 (P 2))
theorem pm_look (hP : pm_P P) {i j : Nat} : ms_X0_lookOn P C i j = if C (10, 0, 0) 7 = 1 then wk_up (pm_lk P C i j) (8, i, j) 1 (pm_lor (C (8, i, j) 1)) else ms_X2_giveUp P (pm_lk P C i j) i j := by
  have e0 : mr_X3_isNewerThanMemory P (wk_up C (10, 0, 0) 4 1) i j = mr_X3_isNewerThanMemory P C i j := by
    unfold mr_X3_isNewerThanMemory
    simp [wk_up_at]
  have hp2 : P 2 < 4000 := by unfold pm_P at hP; omega
  unfold ms_X0_lookOn pm_lk
  rw [e0, pm_lorR, pm_lorR, pn_clamp hp2, show Int32.toNatClampNeg 0 = 0 by decide]
  by_cases hd : mr_X3_isNewerThanMemory P C i j = 0
  · simp [hd, wk_up_at]
  · have hx : wk_up C (10, 0, 0) 4 1 (9, i, j) = C (9, i, j) := wk_up_ne _ _ _ (by simp)
    have hy : wk_up C (10, 0, 0) 4 1 (12, 0, 0) = C (12, 0, 0) := wk_up_ne _ _ _ (by simp)
    rw [hx, hy]
    simp [hd, wk_up_at, wk_su_at]
theorem pm_lookg (hP : pm_P P) {i j : Nat} (hg : mg_X2_giveUp P (pm_lk P C i j) i j) : mg_X0_lookOn P C i j := by
  have e0 : mr_X3_isNewerThanMemory P (wk_up C (10, 0, 0) 4 1) i j = mr_X3_isNewerThanMemory P C i j := by
    unfold mr_X3_isNewerThanMemory
    simp [wk_up_at]
  have hp2 : P 2 < 4000 := by unfold pm_P at hP; omega
  have hcp : wk_cp 0 0 (nI (P 2)) (P 2) (P 2) := by
    refine ⟨by decide, by decide, pn_nneg hp2, ?_, ?_⟩ <;> (rw [pn_clamp hp2]; show 0 + P 2 ≤ P 2; omega)
  unfold mg_X0_lookOn
  unfold pm_lk at hg
  rw [e0, pn_clamp hp2, show Int32.toNatClampNeg 0 = 0 by decide]
  by_cases hd : mr_X3_isNewerThanMemory P C i j = 0
  · rw [if_pos hd] at hg
    simp [hd, hg]
  · rw [if_neg hd] at hg
    have hx : wk_up C (10, 0, 0) 4 1 (9, i, j) = C (9, i, j) := wk_up_ne _ _ _ (by simp)
    have hy : wk_up C (10, 0, 0) 4 1 (12, 0, 0) = C (12, 0, 0) := wk_up_ne _ _ _ (by simp)
    rw [hx, hy]
    simp [hd, hg, hcp]
/-- what pm_lk leaves -/
theorem pm_lko {i j : Nat} {κ : wk_K3} (h1 : ¬ κ.1 = 10) (h2 : ¬ κ.1 = 12) : pm_lk P C i j κ = C κ := by
  have n1 : ¬ κ = (10, 0, 0) := fun e => h1 (by rw [e])
  have n2 : ¬ κ = (12, 0, 0) := fun e => h2 (by rw [e])
  unfold pm_lk
  split
  · rw [wk_up_ne _ _ _ n1]
  · rw [wk_su_ne _ _ n2, wk_up_ne _ _ _ n1]
theorem pm_lkb {i j k : Nat} : pm_lk P C i j (10, 0, 0) k = if k = 4 then 1 else C (10, 0, 0) k := by
  unfold pm_lk
  split <;> simp [wk_up_at, wk_su_at]
/-- the reference beside it -/
theorem pm_lkE (hP : pm_P P) (hE : pm_E P C R) {i j : Nat} (hi : i < P 0) (hj : j < P 1) (hs : ¬ C (8, i, j) 1 = 0) (v : Int32) : mg_X5_snoop_L93 5 P (wk_up R (20, 0, 0) 21 1) v (nI (8 * i + j)) (C (8, i, j) 1) 0 ∧ pm_E P (pm_lk P C i j) (ms_X5_snoop_L93 5 P (wk_up R (20, 0, 0) 21 1) v (nI (8 * i + j)) (C (8, i, j) 1) 0) ∧ ∀ κ : wk_K3, ¬ κ.1 = 20 → ¬ κ.1 = 32 → ms_X5_snoop_L93 5 P (wk_up R (20, 0, 0) 21 1) v (nI (8 * i + j)) (C (8, i, j) 1) 0 κ = R κ := by
  have hP' := hP
  have c2 : R (20, 0, 0) 2 = nI (P 2) := hE.2.2.1.2.2.1
  have hE1 := hE.bu (k := 4) (t := 21) (x := 1) (Or.inr (Or.inr (Or.inr ⟨rfl, rfl⟩))) rfl
  unfold pm_P at hP
  unfold pm_lk
  rcases pm_dirtyC (P := P) (C := C) (i := i) (j := j) with d | d
  · have hd : ∀ sg : wk_Sg, mr_X5_isDirty P sg (C (8, i, j) 1) = 1 := fun sg => by
      rcases pm_dirtyR (P := P) (sg := sg) (x := C (8, i, j) 1) with q | q
      · exact q.1
      · exact absurd d.2 q.2
    obtain ⟨q1, q2⟩ := pr_L93 (P := P) (w := P 2) (t := 8 * i + j) (v := v) (st := C (8, i, j) 1) (by omega) (by omega) hd 5 0 (wk_up R (20, 0, 0) 21 1) (by omega) (by omega) (by simpa [wk_up_at] using c2)
    refine ⟨q1, ?_, fun κ h1 h2 => ?_⟩
    · rw [show (0 : Int32) = nI 0 from rfl, q2, d.1, if_neg (by decide)]
      refine hE1.kp (fun k hk => ?_)
      rw [if_pos ⟨Nat.zero_le _, hk⟩]
      have := ((hE.2.2.2.2.2.2.2.1 i j hi hj).2.2 k hk).2 hs
      simp [va_cpy, hk, this, wk_up_at]
    · rw [show (0 : Int32) = nI 0 from rfl, q2, wk_su_ne _ _ (fun e => h2 (by rw [e])), wk_up_ne _ _ _ (fun e => h1 (by rw [e]))]
  · have hd : mr_X5_isDirty P (wk_up R (20, 0, 0) 21 1) (C (8, i, j) 1) = 0 := by
      rcases pm_dirtyR (P := P) (sg := wk_up R (20, 0, 0) 21 1) (x := C (8, i, j) 1) with q | q
      · exact absurd q.2 d.2
      · exact q.1
    obtain ⟨q1, q2⟩ := pr_L93z (P := P) (w := 0) (v := v) (a := nI (8 * i + j)) (f := 4) hd
    refine ⟨q1, ?_, fun κ h1 h2 => ?_⟩
    · rw [d.1, if_pos rfl, show ms_X5_snoop_L93 5 P (wk_up R (20, 0, 0) 21 1) v (nI (8 * i + j)) (C (8, i, j) 1) 0 = _ from q2]
      exact hE1
    · rw [show (0 : Int32) = nI 0 from rfl, q2, wk_up_ne _ _ _ (fun e => h1 (by rw [e]))]
end PMN
