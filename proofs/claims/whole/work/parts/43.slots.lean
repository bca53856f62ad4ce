/-! A slot is emptied, on both sides. -/
section PMS
variable {P : Nat → Nat} {C R : wk_Sg}
theorem wk_su_up (sg : wk_Sg) (κ : wk_K3) (k : Nat) (x : Int32) (g : Nat → Int32) : wk_su (wk_up sg κ k x) κ g = wk_su sg κ g := by
  funext j
  by_cases h : j = κ <;> simp [wk_su, wk_up, h]
theorem pn_inc (k : Nat) : nI k + 1 = nI (k + 1) := nI_1 k
/-- writeBack of the reference -/
theorem pr_wb {w t ln : Nat} (hw : w ≤ 4) (ht : t < 32) (hl : w * ln + w ≤ 64) : ∀ (f k : Nat) (sg : wk_Sg), k ≤ w → w - k < f → sg (20, 0, 0) 2 = nI w → sg (30, 0, 0) t = nI ln → mg_X5_writeBack_L2 f P sg (nI t) (nI k) ∧ ms_X5_writeBack_L2 f P sg (nI t) (nI k) = wk_su sg (21, 0, 0) (fun x => if w * ln + k ≤ x ∧ x < w * ln + w then sg (31, 0, 0) (4 * t + (x - w * ln)) else sg (21, 0, 0) x) := by
  intro f
  induction f with
  | zero => intro k sg _ h; omega
  | succ f ih =>
    intro k sg hk hf h2 h3
    rw [mg_X5_writeBack_L2, ms_X5_writeBack_L2, h2]
    by_cases hkw : k = w
    · subst hkw
      have e : nI k ≤ nI k := (pn_le (by omega) (by omega)).mpr (Nat.le_refl _)
      refine ⟨by simp [e], ?_⟩
      rw [if_pos e]
      funext κ x
      by_cases hκ : κ = (21, 0, 0)
      · subst hκ
        rw [wk_su_self, if_neg (by omega)]
      · rw [wk_su_ne _ _ hκ]
    · have hkw : k < w := by omega
      have e : ¬ nI w ≤ nI k := by rw [pn_le (by omega) (by omega)]; omega
      have e1 : nI w * nI ln + nI k = nI (w * ln + k) := by rw [pn_mul, nI_add]
      have e2 : (4 : Int32) * nI t + nI k = nI (4 * t + k) := by rw [pn_m4, nI_add]
      rw [pn_clamp (show t < 4000 by omega), h3, e1, e2, pn_clamp (show w * ln + k < 4000 by omega), pn_clamp (show 4 * t + k < 4000 by omega), pn_inc, if_neg e]
      obtain ⟨i1, i2⟩ := ih (k + 1) (wk_up sg (21, 0, 0) (w * ln + k) (sg (31, 0, 0) (4 * t + k))) (by omega) (by omega) (by simpa [wk_up_at] using h2) (by simpa [wk_up_at] using h3)
      refine ⟨⟨fun h => absurd h e, fun _ => ⟨pn_in ht (by omega), pn_in (by omega) (by omega), pn_in (by omega) (by omega), i1⟩⟩, ?_⟩
      rw [i2, wk_su_up]
      congr 1
      funext x
      simp only [wk_up_at]
      by_cases hx : x = w * ln + k
      · subst hx
        rw [if_neg (by omega), if_pos (by simp), if_pos (by omega)]
        congr 1
        omega
      · by_cases hx2 : w * ln + (k + 1) ≤ x ∧ x < w * ln + w
        · rw [if_pos hx2, if_neg (by simp), if_pos (by omega)]
        · rw [if_neg hx2, if_neg (by simp [hx]), if_neg (by omega)]
theorem pr_em {t : Nat} (ht : t < 32) : ∀ (f k : Nat) (sg : wk_Sg), k ≤ 4 → 4 - k < f → mg_X5_empty_L16 f P sg (nI t) (nI k) ∧ ms_X5_empty_L16 f P sg (nI t) (nI k) = wk_su sg (31, 0, 0) (fun x => if 4 * t + k ≤ x ∧ x < 4 * t + 4 then 0 else sg (31, 0, 0) x) := by
  intro f
  induction f with
  | zero => intro k sg _ h; omega
  | succ f ih =>
    intro k sg hk hf
    rw [mg_X5_empty_L16, ms_X5_empty_L16]
    by_cases hkw : k = 4
    · subst hkw
      have e : (4 : Int32) ≤ nI 4 := (pn_le (a := 4) (by omega) (by omega)).mpr (Nat.le_refl _)
      refine ⟨by simp [e], ?_⟩
      rw [if_pos e]
      funext κ x
      by_cases hκ : κ = (31, 0, 0)
      · subst hκ
        rw [wk_su_self, if_neg (by omega)]
      · rw [wk_su_ne _ _ hκ]
    · have hkw : k < 4 := by omega
      have e : ¬ (4 : Int32) ≤ nI k := by show ¬ nI 4 ≤ nI k; rw [pn_le (by omega) (by omega)]; omega
      have e2 : (4 : Int32) * nI t + nI k = nI (4 * t + k) := by rw [pn_m4, nI_add]
      rw [e2, pn_clamp (show 4 * t + k < 4000 by omega), pn_inc, if_neg e]
      obtain ⟨i1, i2⟩ := ih (k + 1) (wk_up sg (31, 0, 0) (4 * t + k) 0) (by omega) (by omega)
      refine ⟨⟨fun h => absurd h e, fun _ => ⟨pn_in (by omega) (by omega), i1⟩⟩, ?_⟩
      rw [i2, wk_su_up]
      congr 1
      funext x
      simp only [wk_up_at]
      by_cases hx : x = 4 * t + k
      · subst hx
        rw [if_neg (by omega), if_pos (by simp), if_pos (by omega)]
      · by_cases hx2 : 4 * t + (k + 1) ≤ x ∧ x < 4 * t + 4
        · rw [if_pos hx2, if_pos (by omega)]
        · rw [if_neg hx2, if_neg (by simp [hx]), if_neg (by omega)]
def pr_E (sg : wk_Sg) (t : Nat) : wk_Sg := wk_su (wk_up (wk_up sg (29, 0, 0) t 0) (30, 0, 0) t (-1)) (31, 0, 0) (fun x => if 4 * t ≤ x ∧ x < 4 * t + 4 then 0 else sg (31, 0, 0) x)
def pr_W (sg : wk_Sg) (w ln t : Nat) : wk_Sg := wk_su sg (21, 0, 0) (fun x => if w * ln ≤ x ∧ x < w * ln + w then sg (31, 0, 0) (4 * t + (x - w * ln)) else sg (21, 0, 0) x)
theorem pr_empty {sg : wk_Sg} {t : Nat} (ht : t < 32) : mg_X5_empty P sg (nI t) ∧ ms_X5_empty P sg (nI t) = pr_E sg t := by
  unfold mg_X5_empty ms_X5_empty
  rw [pn_clamp (show t < 4000 by omega), pn_0]
  obtain ⟨h1, h2⟩ := pr_em (P := P) ht 5 0 (wk_up (wk_up sg (29, 0, 0) t (nI 0)) (30, 0, 0) t (-1)) (by omega) (by omega)
  refine ⟨⟨pn_in ht (by omega), pn_in ht (by omega), h1⟩, ?_⟩
  rw [h2]
  unfold pr_E
  rw [show nI 0 = 0 from rfl]
  congr 1
theorem pr_back {sg : wk_Sg} {t w ln : Nat} (hw : w ≤ 4) (ht : t < 32) (hl : w * ln + w ≤ 64) (h2 : sg (20, 0, 0) 2 = nI w) (h3 : sg (30, 0, 0) t = nI ln) : mg_X5_writeBack P sg (nI t) ∧ ms_X5_writeBack P sg (nI t) = pr_W sg w ln t := by
  unfold mg_X5_writeBack ms_X5_writeBack
  rw [pn_0]
  obtain ⟨g1, g2⟩ := pr_wb (P := P) hw ht hl 5 0 sg (by omega) (by omega) h2 h3
  exact ⟨g1, g2⟩
/-- the relation when a slot is emptied, and when its line goes to memory -/
theorem pm_D.em (hP : pm_P P) (h : pm_D P C R) {i j : Nat} (hi : i < P 0) (hj : j < P 1) : pm_D P (wk_up (wk_up C (8, i, j) 1 0) (8, i, j) 2 (-1)) (pr_E R (8 * i + j)) := by
  obtain ⟨h0, ⟨h1a, h1b⟩, h2, h3, h4, h5, h6, h7, h8, h9, h10⟩ := h
  unfold pr_E
  refine ⟨by simpa [wk_up_at, wk_su_at] using h0, ⟨by simpa [wk_up_at] using h1a, fun i hi => by simpa [wk_up_at] using h1b i hi⟩, by simpa [pm_c2, wk_up_at, wk_su_at] using h2, fun b hb => by simpa [wk_up_at, wk_su_at] using h3 b hb, fun i p hi hp => by simpa [wk_up_at, wk_su_at] using h4 i p hi hp, fun i k hi hk => by simpa [wk_up_at, wk_su_at] using h5 i k hi hk, fun i hi => by simpa [wk_up_at, wk_su_at] using h6 i hi, fun i' j' hi' hj' => ?_, by simpa [pm_bus, wk_up_at, wk_su_at] using h8, fun k hk => by simpa [wk_up_at, wk_su_at] using h9 k hk, fun k hk => by simpa [wk_up_at, wk_su_at] using h10 k hk⟩
  unfold pm_P at hP
  obtain ⟨g1, g2, g3⟩ := h7 i' j' hi' hj'
  by_cases e : i' = i ∧ j' = j
  · obtain ⟨rfl, rfl⟩ := e
    refine ⟨by simp [wk_up_at, wk_su_at], by simp [wk_up_at, wk_su_at], fun k hk => ⟨fun _ => ?_, fun q => ?_⟩⟩
    · simp only [wk_su_at, if_true]
      rw [if_pos (by omega)]
    · simp [wk_up_at] at q
  · have n1 : ¬ 8 * i' + j' = 8 * i + j := by omega
    have n2 : ¬ ((8, i', j') : wk_K3) = (8, i, j) := by simp; omega
    refine ⟨by simpa [wk_up_at, wk_su_at, n1, n2] using g1, by simpa [wk_up_at, wk_su_at, n1, n2] using g2, fun k hk => ?_⟩
    have n3 : ¬ (4 * (8 * i + j) ≤ 4 * (8 * i' + j') + k ∧ 4 * (8 * i' + j') + k < 4 * (8 * i + j) + 4) := by omega
    have e1 : wk_up (wk_up C (8, i, j) 1 0) (8, i, j) 2 (-1) (8, i', j') = C (8, i', j') := by rw [wk_up_ne _ _ _ n2, wk_up_ne _ _ _ n2]
    have e2 : wk_up (wk_up C (8, i, j) 1 0) (8, i, j) 2 (-1) (9, i', j') = C (9, i', j') := by rw [wk_up_ne _ _ _ (by simp), wk_up_ne _ _ _ (by simp)]
    rw [e1, e2, wk_su_self, if_neg n3]
    exact g3 k hk
theorem pm_D.wb (hP : pm_P P) (h : pm_D P C R) {i j n : Nat} (hi : i < P 0) (hj : j < P 1) (hs : ¬ C (8, i, j) 1 = 0) : pm_D P (wk_su C (2, 0, 0) (va_cpy (C (9, i, j)) (C (2, 0, 0)) 0 (P 2 * n) (P 2))) (pr_W R (P 2) n (8 * i + j)) := by
  obtain ⟨h0, ⟨h1a, h1b⟩, h2, h3, h4, h5, h6, h7, h8, h9, h10⟩ := h
  unfold pr_W
  refine ⟨by simpa [wk_su_at] using h0, ⟨by simpa [wk_su_at] using h1a, fun i hi => by simpa [wk_su_at] using h1b i hi⟩, by simpa [pm_c2, wk_su_at] using h2, fun b hb => ?_, fun i p hi hp => by simpa [wk_su_at] using h4 i p hi hp, fun i k hi hk => by simpa [wk_su_at] using h5 i k hi hk, fun i hi => by simpa [wk_su_at] using h6 i hi, fun i j hi hj => by simpa [wk_su_at] using h7 i j hi hj, by simpa [pm_bus, wk_su_at] using h8, fun k hk => by simpa [wk_su_at] using h9 k hk, fun k hk => by simpa [wk_su_at] using h10 k hk⟩
  rw [wk_su_self, wk_su_self, h3 b hb |> fun e => show va_cpy (C (9, i, j)) (C (2, 0, 0)) 0 (P 2 * n) (P 2) b = if P 2 * n ≤ b ∧ b < P 2 * n + P 2 then C (9, i, j) (0 + (b - P 2 * n)) else R (21, 0, 0) b from by rw [← e]; rfl]
  by_cases hb2 : P 2 * n ≤ b ∧ b < P 2 * n + P 2
  · rw [if_pos hb2, if_pos hb2, Nat.zero_add]
    exact ((h7 i j hi hj).2.2 (b - P 2 * n) (by omega)).2 hs
  · rw [if_neg hb2, if_neg hb2]
/-- the component gives a valid slot up -/
def pm_new (C : wk_Sg) (i j : Nat) : Prop := C (8, i, j) 1 = 3 ∨ C (8, i, j) 1 = 4
theorem pm_dirtyC {i j : Nat} : (mr_X3_isNewerThanMemory P C i j = 1 ∧ pm_new C i j) ∨ (mr_X3_isNewerThanMemory P C i j = 0 ∧ ¬ pm_new C i j) := by
  unfold mr_X3_isNewerThanMemory pm_new
  by_cases h3 : C (8, i, j) 1 = 3
  · exact Or.inl ⟨by rw [if_pos h3], Or.inl h3⟩
  · by_cases h4 : C (8, i, j) 1 = 4
    · exact Or.inl ⟨by rw [if_neg h3, if_pos h4], Or.inr h4⟩
    · exact Or.inr ⟨by rw [if_neg h3, if_neg h4], fun q => q.elim h3 h4⟩
theorem pm_dirtyR {sg : wk_Sg} {x : Int32} : (mr_X5_isDirty P sg x = 1 ∧ (x = 3 ∨ x = 4)) ∨ (mr_X5_isDirty P sg x = 0 ∧ ¬ (x = 3 ∨ x = 4)) := by
  unfold mr_X5_isDirty
  by_cases h3 : x = 3
  · exact Or.inl ⟨by rw [if_pos h3], Or.inl h3⟩
  · by_cases h4 : x = 4
    · exact Or.inl ⟨by rw [if_neg h3, if_pos h4], Or.inr h4⟩
    · exact Or.inr ⟨by rw [if_neg h3, if_neg h4], fun q => q.elim h3 h4⟩
theorem pm_new.ne {i j : Nat} (h : pm_new C i j) : ¬ C (8, i, j) 1 = 0 := by
  rcases h with h | h <;> rw [h] <;> decide
/-- giveUp: the dirty case, the clean case -/
theorem pm_gu1 (hP : pm_P P) (hD : pm_D P C R) {i j n : Nat} (hi : i < P 0) (hj : j < P 1) (hd : pm_new C i j) (hn : n < P 5) (hl : C (8, i, j) 2 = nI n) : mg_X2_giveUp P C i j ∧ mg_X5_writeBack P R (nI (8 * i + j)) ∧ mg_X5_empty P (ms_X5_writeBack P R (nI (8 * i + j))) (nI (8 * i + j)) ∧ pm_D P (ms_X2_giveUp P C i j) (ms_X5_empty P (ms_X5_writeBack P R (nI (8 * i + j))) (nI (8 * i + j))) := by
  have hP' := hP
  unfold pm_P at hP
  have hw1 : C (1, 0, 0) 0 = nI (P 2) := hD.2.1.1
  have hc2 : R (20, 0, 0) 2 = nI (P 2) := hD.2.2.1.2.2.1
  have hb : P 2 * n + P 2 ≤ P 3 := by
    have : P 2 * (n + 1) ≤ P 2 * P 5 := Nat.mul_le_mul_left _ hn
    rw [Nat.mul_succ] at this
    omega
  have hR : R (30, 0, 0) (8 * i + j) = nI n := by rw [← (hD.2.2.2.2.2.2.2.1 i j hi hj).2.1]; exact hl
  obtain ⟨e1, e2⟩ := pr_back (P := P) (sg := R) (t := 8 * i + j) (w := P 2) (ln := n) (by omega) (by omega) (by omega) hc2 hR
  obtain ⟨e3, e4⟩ := pr_empty (P := P) (sg := ms_X5_writeBack P R (nI (8 * i + j))) (t := 8 * i + j) (by omega)
  have hk : mr_X3_isNewerThanMemory P C i j = 1 := by
    rcases pm_dirtyC (P := P) (C := C) (i := i) (j := j) with h | h
    · exact h.1
    · exact absurd hd h.2
  have e5 : nI n * nI (P 2) = nI (P 2 * n) := by rw [pn_mul, Nat.mul_comm]
  refine ⟨?_, e1, e3, ?_⟩
  · unfold mg_X2_giveUp
    rw [hk, hl, hw1, e5]
    refine ⟨fun h => absurd h (by decide), fun _ => ⟨⟨by decide, pn_nneg (by omega), pn_nneg (by omega), ?_, ?_⟩, trivial⟩⟩
    · rw [pn_clamp (show P 2 < 4000 by omega)]
      show 0 + P 2 ≤ P 2
      omega
    · rw [pn_clamp (show P 2 < 4000 by omega), pn_clamp (show P 2 * n < 4000 by omega)]
      omega
  · rw [e4, e2]
    unfold ms_X2_giveUp
    rw [hk, hl, hw1, e5, pn_clamp (show P 2 < 4000 by omega), pn_clamp (show P 2 * n < 4000 by omega), if_neg (by decide)]
    exact (hD.wb hP' hi hj hd.ne).em hP' hi hj
theorem pm_gu0 (hP : pm_P P) (hD : pm_D P C R) {i j : Nat} (hi : i < P 0) (hj : j < P 1) (hd : ¬ pm_new C i j) : mg_X2_giveUp P C i j ∧ mg_X5_empty P R (nI (8 * i + j)) ∧ pm_D P (ms_X2_giveUp P C i j) (ms_X5_empty P R (nI (8 * i + j))) := by
  have hP' := hP
  unfold pm_P at hP
  obtain ⟨e3, e4⟩ := pr_empty (P := P) (sg := R) (t := 8 * i + j) (by omega)
  have hk : mr_X3_isNewerThanMemory P C i j = 0 := by
    rcases pm_dirtyC (P := P) (C := C) (i := i) (j := j) with h | h
    · exact absurd h.2 hd
    · exact h.1
  refine ⟨?_, e3, ?_⟩
  · unfold mg_X2_giveUp
    rw [hk]
    exact ⟨fun _ => trivial, fun h => absurd rfl h⟩
  · rw [e4]
    unfold ms_X2_giveUp
    rw [hk, if_pos rfl]
    exact hD.em hP' hi hj
/-- what giveUp does to the cells that the invariant reads -/
theorem pm_gu8 {i j i' j' k : Nat} : ms_X2_giveUp P C i j (8, i', j') k = if (i' = i ∧ j' = j) ∧ k = 1 then 0 else if (i' = i ∧ j' = j) ∧ k = 2 then -1 else C (8, i', j') k := by
  unfold ms_X2_giveUp
  by_cases h : mr_X3_isNewerThanMemory P C i j = 0
  · rw [if_pos h]
    simp only [wk_up_at, Prod.mk.injEq, true_and]
    by_cases hk : (i' = i ∧ j' = j) ∧ k = 2
    · rw [if_pos hk, if_neg (by omega), if_pos hk]
    · rw [if_neg hk, if_neg hk]
  · rw [if_neg h]
    simp only [wk_up_at, wk_su_at, Prod.mk.injEq, true_and]
    by_cases hk : (i' = i ∧ j' = j) ∧ k = 2
    · rw [if_pos hk, if_neg (by omega), if_pos hk]
    · rw [if_neg hk, if_neg hk]
      simp
theorem pm_guo {i j : Nat} {κ : wk_K3} (h8 : ¬ κ.1 = 8) (h2 : ¬ κ.1 = 2) : ms_X2_giveUp P C i j κ = C κ := by
  have n1 : ¬ κ = (8, i, j) := fun e => h8 (by rw [e])
  have n2 : ¬ κ = (2, 0, 0) := fun e => h2 (by rw [e])
  unfold ms_X2_giveUp
  split
  · rw [wk_up_ne _ _ _ n1, wk_up_ne _ _ _ n1]
  · rw [wk_up_ne _ _ _ n1, wk_up_ne _ _ _ n1, wk_su_ne _ _ n2]
end PMS
